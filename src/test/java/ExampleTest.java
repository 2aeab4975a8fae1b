/** The example of README.md, call by call: what stands there behind a call is what it answers. */
public final class ExampleTest extends Checks {
    public static void main(String[] args) {
        sentence("the example of README.md", ExampleTest::example);
        end();
    }

    private static void example() {
        PageSkeleton x = new PageSkeleton();
        is("feed", x.feed(0x3c613e78, 0x3c2f613e, 0, 0, 0), 20);
        is("page(8)", x.page(8), 0);
        is("feed", x.feed(0x3c613e79, 0x3c2f613e, 0x3c613e7a, 0x3c2f613e, 0), 20);
        is("page(16)", x.page(16), 1);
        is("feed", x.feed(0x3c613e00, 0, 0, 0, 0), 20);
        is("page(2)", x.page(2), -9);
        is("fault()", x.fault(), 2);
        is("would(0, 1)", x.would(0, 1), 3);
        is("lay(0)", x.lay(0), 0);
        is("lay(1)", x.lay(1), 0);
        is("told(2)", x.told(2), 4);
        skeletonIs(x, "{<a>?</a>}");
        is("node(0, 0)", x.node(0, 0), 4);
        is("node(2, 0)", x.node(2, 0), 2);
        is("fits(0)", x.fits(0), true);
        is("passes(1, 0)", x.passes(1, 0), 2);
        is("value(1, 2, 1)", x.value(1, 2, 1), 4);
        is("tokenOf(4, 2)", x.tokenOf(4, 2), 25);
        is("undo()", x.undo(), 3);
        is("fitting()", x.fitting(), 1);
        noElement(x, "lay(2)", () -> x.lay(2));
        is("status(0)", x.status(0), 1);
    }
}
