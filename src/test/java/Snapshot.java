/**
 * What an object answers about itself, as one text, to compare before and after a call.
 * An object answers 512 calls only, so long arrays are told by their ends and the sums of their quarters.
 */
final class Snapshot {
    private static final int SHORT = 20;

    private Snapshot() {
    }

    static String of(SharedLeaves x) {
        StringBuilder text = new StringBuilder();
        text.append("used ").append(x.used()).append(", made ").append(x.made());
        for (int a = 0; a < 16; a++) {
            int length = x.length(a);
            if (length >= 0) {
                text.append("; ").append(a).append(" of ").append(length).append(':');
                appendValues(text, x, a, length);
                appendLeaves(text, x, a, length);
            }
        }
        return text.toString();
    }

    private static void appendValues(StringBuilder text, SharedLeaves x, int a, int length) {
        if (length <= SHORT) {
            for (int i = 0; i < length; i++) {
                text.append(' ').append(x.get(a, i));
            }
            return;
        }
        text.append(' ').append(x.get(a, 0)).append(" .. ").append(x.get(a, length - 1));
        for (int part = 0; part < 4; part++) {
            text.append(" +").append(x.sum(a, part * length / 4, (part + 1) * length / 4));
        }
    }

    private static void appendLeaves(StringBuilder text, SharedLeaves x, int a, int length) {
        if (length > 0) {
            text.append(", leaves ").append(x.leaf(a, 0)).append(" .. ").append(x.leaf(a, (length - 1) / 16));
        }
        for (int b = 0; b < 3; b++) {
            text.append(x.alike(a, 0, b, 0) ? " alike " + b : "");
        }
    }
}
