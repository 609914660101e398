/** The example of README.md, call by call. */
public final class ReadmeTest {
    private static final Checks CHECKS = new Checks();

    public static void main(String[] args) {
        CHECKS.sentence("README.md, the example", ReadmeTest::example);
        CHECKS.end();
    }

    private static void example() {
        SharedLeaves x = new SharedLeaves();
        int a = x.make(100, 7);
        int b = x.copy(a);
        x.set(b, 20, 8);
        CHECKS.due("the arrays a and b", 100 * a + b, 1);
        CHECKS.due("get(a, 20)", x.get(a, 20), 7);
        CHECKS.due("difference(a, b)", x.difference(a, b), 20);
        CHECKS.due("used()", x.used(), 1);
        int c = x.slice(b, 16, 48);
        CHECKS.due("slice(b, 16, 48)", c, 2);
        CHECKS.due("alike(b, 1, c, 0)", x.alike(b, 1, c, 0), true);
        CHECKS.due("leaf(c, 0)", x.leaf(c, 0), 2);
        x.reverse(c);
        CHECKS.due("leaf(c, 0), turned", x.leaf(c, 0), 0);
        CHECKS.due("leaf(c, 1), turned", x.leaf(c, 1), 1);
        CHECKS.due("find(c, 0, 8)", x.find(c, 0, 8), 27);
        CHECKS.due("get(b, 20)", x.get(b, 20), 8);
        int d = x.join(c, b);
        CHECKS.due("join(c, b)", d, 3);
        CHECKS.due("length(d)", x.length(d), 132);
        CHECKS.due("alike(d, 1, c, 1)", x.alike(d, 1, c, 1), true);
        CHECKS.due("alike(d, 3, b, 1)", x.alike(d, 3, b, 1), true);
        CHECKS.due("made()", x.made(), 2);
        CHECKS.due("release(d)", x.release(d), true);
    }
}
