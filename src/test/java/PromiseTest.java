/** For each promise of the document ordinary inputs, the edges that it names, and wrong inputs. */
public final class PromiseTest extends Checks {
    public static void main(String[] args) {
        Runnable[] tests = {PromiseTest::newObject, PromiseTest::feeding, PromiseTest::reading,
            PromiseTest::faults, PromiseTest::laying, PromiseTest::tidying, PromiseTest::tidiedAsked,
            PromiseTest::undoing, PromiseTest::clearing, PromiseTest::telling, PromiseTest::ofPages,
            PromiseTest::tokens, PromiseTest::ofTokens, PromiseTest::nodes, PromiseTest::pageNodes,
            PromiseTest::fitsAsked, PromiseTest::reaching, PromiseTest::waysAsked, PromiseTest::timesAsked,
            PromiseTest::passesAsked, PromiseTest::values, PromiseTest::takers, PromiseTest::unlikeWords,
            PromiseTest::wouldAsked, PromiseTest::distances, PromiseTest::nearestAsked, PromiseTest::ordersAsked,
            PromiseTest::shortestAsked, PromiseTest::firmAsked, PromiseTest::alikeAsked, PromiseTest::cutsAsked,
            PromiseTest::derivedAsked, PromiseTest::commonAsked, PromiseTest::similarAsked, PromiseTest::steps,
            PromiseTest::usersAsked, PromiseTest::greatestAsked, PromiseTest::fittingAsked,
            PromiseTest::statusAsked};
        for (int i = 0; i < tests.length; i++) {
            sentence("promise " + (i + 1), tests[i]);
        }
        end();
    }

    private static void newObject() {
        PageSkeleton x = new PageSkeleton();
        for (int what = 0; what < 10; what++) {
            is("told(" + what + ")", x.told(what), 0);
        }
        is("fault()", x.fault(), -1);
        is("undo()", x.undo(), -1);
        is("NONE", PageSkeleton.NONE, -1);
        for (int what = 0; what < 3; what++) {
            is("status(" + what + ")", x.status(what), 0);
        }
    }

    private static void feeding() {
        PageSkeleton x = new PageSkeleton();
        is("feed()", x.feed(0x3c61623e, 0x78202020, 0x20202020, 0x20202020, 0x2020203c), 20);
        for (int i = 2; i <= 20; i++) {
            is("feed()", x.feed(0x2f61623e, -1, Integer.MIN_VALUE, Integer.MAX_VALUE, 0), i * 20);
        }
        is("feed() beyond 400", x.feed(0, 0, 0, 0, 0), -1);
        is("bytes", x.told(9), 400);
        is("page(24): the highest byte comes first", x.page(24), 0);
        is("tokens", x.pageOf(0, 0), 3);
        is("sort", x.tokenOf(2, 0), 1);
        is("the tape is empty", x.told(9), 0);
        is("feed()", x.feed(-1, -1, -1, -1, -1), 20);
        is("a byte 255 can't stand there", x.page(1), -9);
    }

    private static void reading() {
        PageSkeleton x = new PageSkeleton();
        is("first", tell(x, "<a>x</a>"), 0);
        is("second", tell(x, "  abcdef  <b >".substring(0, 8)), 1);
        is("fault 1", tell(x, "<a><"), -9);
        is("fault 2", tell(x, many("x ", 61)), -8);
        is("no page more", x.told(0), 2);
        is("no token more", x.told(1), 4);
        feed(x, "<c>");
        noArgument(x, "page(-1)", () -> x.page(-1));
        noArgument(x, "page(21)", () -> x.page(21));
        noArgument(x, "page(MAX)", () -> x.page(Integer.MAX_VALUE));
        is("page(3)", x.page(3), 2);
        is("page(0)", x.page(0), -9);
        for (int page = 3; page < 8; page++) {
            is("page", tell(x, many("<a>", 60)), page);
        }
        is("no fault", x.fault(), -1);
        feed(x, "<");
        noState(x, "a ninth", () -> x.page(1));
        noArgument(x, "a ninth, wrongly asked", () -> x.page(21));
        is("the tape stays", x.told(9), 20);
    }

    private static void fault(String text, int sort, int place) {
        PageSkeleton x = of("<k>");
        is("page of '" + text + "'", tell(x, text), sort - 10);
        is("fault of '" + text + "'", x.fault(), place);
        is("pages", x.told(0), 1);
        is("tokens", x.told(1), 1);
        is("the tape", x.told(9), 0);
    }

    private static void faults() {
        fault("", 1, 0);
        fault("   ", 1, 3);
        fault("<", 1, 1);
        fault("</", 1, 2);
        fault("<a", 1, 2);
        fault("</ab", 1, 4);
        fault("<>", 1, 1);
        fault("</>", 1, 2);
        fault("< a>", 1, 1);
        fault("<a >", 1, 2);
        fault("</ a>", 1, 2);
        fault("<//a>", 1, 2);
        fault("<a/>", 1, 2);
        fault("<a<b>", 1, 2);
        fault("a>", 1, 1);
        fault("a/", 1, 1);
        fault("x y Z", 1, 4);
        fault("a\tb", 1, 1);
        fault("abcdefg", 1, 6);
        fault("<abcdefg>", 1, 7);
        fault("</abcdefg>", 1, 8);
        fault("`", 1, 0);
        fault("{", 1, 0);
        fault(">", 1, 0);
        fault("/", 1, 0);
        fault("\u00e1", 1, 0);
        fault(many("<a>", 60) + " <b>", 2, 181);
        fault(many("<a>", 60) + "b1", 2, 180);
        fault(many("<a>", 60) + " 1", 1, 181);
        fault(many("<a>", 59) + "1<b>", 1, 177);
        // What stands on the tape behind the text is not read.
        PageSkeleton cut = new PageSkeleton();
        feed(cut, "<a>");
        is("<a without its end", cut.page(2), -9);
        is("its place", cut.fault(), 2);
        feed(cut, "</a>");
        is("< alone", cut.page(1), -9);
        is("its place", cut.fault(), 1);
        feed(cut, "ab");
        is("a word of one letter", cut.page(1), 0);
        is("one letter", cut.tokenOf(0, 1), 1);
        feed(cut, "abcdefg");
        is("a word of six letters", cut.page(6), 1);
        PageSkeleton x = of(tags('a', 60), tags('b', 60), tags('c', 60));
        is("180 unlike", x.told(1), 180);
        is("the 201st", tell(x, tags('d', 20) + tags('a', 5) + "<zz>"), -8);
        is("its place", x.fault(), 125);
        is("the 201st, not whole", tell(x, tags('d', 20) + "<zz"), -9);
        is("its place", x.fault(), 103);
        is("180 unlike yet", x.told(1), 180);
        is("200 unlike", tell(x, tags('d', 20) + tags('a', 5)), 3);
        is("no fault", x.fault(), -1);
        is("200 unlike", x.told(1), 200);
        is("known ones", tell(x, tags('d', 20)), 4);
        is("a word of that name", tell(x, "<daa>daa"), -8);
        is("its place", x.fault(), 5);
        is("a tag that closes of that name", tell(x, "</daa>"), -8);
        noElement(x, "lay(9)", () -> x.lay(9));
        is("the fault stays", x.fault(), 0);
    }

    private static void laying() {
        PageSkeleton x = laid("<a>x<b>", "<a>y<b>");
        skeletonIs(x, "<a>?<b>");
        is("a field costs no more", x.lay(0), 0);
        // A repeat once only there, and many times elsewhere, both ways.
        skeletonIs(laid("<a>x</a><a>y</a>", "<a>z</a>"), "{<a>?</a>}");
        skeletonIs(laid("<a>x</a>", "<a>x</a><a>x</a>"), "{<a> x </a>}");
        PageSkeleton once = of("<a>x</a>", "<a>y</a><a>y</a>");
        is("the first", once.lay(0), 0);
        is("unlike words cost", once.lay(1), 1);
        skeletonIs(once, "{<a>?</a>}");
        // What is missing becomes optional; 4 comes ahead of 5.
        PageSkeleton y = laid("<a><b><c>", "<a><d><e><c>");
        skeletonIs(y, "<a>[<b>][<d><e>]<c>");
        is("its cost", y.told(8), 3);
        is("an option that is there", tell(y, "<a><b><c>"), 2);
        is("and laid", y.lay(2), 0);
        skeletonIs(y, "<a>[<b>][<d><e>]<c>");
        // An option that stays stands between two others.
        PageSkeleton z = laid("<a><b><c><d>", "<a><c><d>", "<d>");
        skeletonIs(z, "[<a>][<b>][<c>]<d>");
        // Repeats of what is laid; not if options alone come of it.
        skeletonIs(laid("<a><b><a><b>", "<a><c><a><c>"), "{<a>[<b>][<c>]}");
        skeletonIs(laid("<a><a>", "<b><b>"), "[{<a>}][{<b>}]");
        skeletonIs(laid("<p>" + many("<a>x", 2), "<p>" + many("<b>x", 2)), "<p>{[<a>][<b>] x }");
        // A repeat among what comes of it is no option, whichever of the two it is from.
        String list = many("<a><b>", 2);
        skeletonIs(laid(list, many("<c>" + list, 2)), "{[<c>]{<a><b>}}");
        skeletonIs(laid(many("<c>" + list, 2), list), "{[<c>]{<a><b>}}");
        skeletonIs(laid(many("<c>" + list, 2), many("<d>" + list, 2)), "{[<c>][<d>]{<a><b>}}");
        // WAY 1 is ahead of WAY 2 where they cost alike, and what costs least ahead of all.
        skeletonIs(laid("<a>", "<a><b>"), "<a>[<b>]");
        skeletonIs(laid("<a><b>", "<b><a>"), "[<a>]<b>[<a>]");
        noElement(x, "lay(-1)", () -> x.lay(-1));
        noElement(x, "lay(2)", () -> x.lay(2));
        // 160 is the most.
        PageSkeleton full = of(tags('a', 60), tags('b', 60), tags('c', 40), tags('c', 41), tags('c', 60));
        is("60", full.lay(0), 0);
        is("120", full.lay(1), 120);
        noState(full, "180", () -> full.lay(4));
        noState(full, "161", () -> full.lay(3));
        is("160", full.lay(2), 40);
        is("160", full.told(3), 160);
        is("it fits", full.lay(2), 0);
    }

    private static void tidies(PageSkeleton x, String before, int done, String after) {
        skeletonIs(x, before);
        int back = x.told(7);
        is("tidied(0)", x.tidied(0), done);
        is("tidy()", x.tidy(), done);
        skeletonIs(x, after);
        is("can be taken back", x.told(7), done > 0 ? back + 1 : back);
        is("nothing more", x.tidy(), 0);
        is("nothing more can be taken back", x.told(7), done > 0 ? back + 1 : back);
        if (done > 0) {
            x.undo();
            skeletonIs(x, before);
        }
    }

    // Each page has a repeat of <a><b> where the other has one of <a> and many <b>.
    private static final String PLAIN = "<a><b><a><b>";
    private static final String NESTED = "<a><b><b><a><b><b>";

    private static void tidying() {
        tidies(new PageSkeleton(), "", 0, "");
        tidies(laid("<a>", "<b>"), "[<a>][<b>]", 0, "[<a>][<b>]");
        tidies(laid("<a>", "<b>", "<b><a>"), "[<a>][<b>][<a>]", 0, "[<a>][<b>][<a>]");
        // Two repeats, one right behind the other.
        tidies(laid(PLAIN + NESTED, NESTED + PLAIN), "{<a>{<b>}}{<a>{<b>}}", 1, "{<a>{<b>}}");
        // A repeat with such right ahead of it; right behind it.
        tidies(laid("<a><b><b><a><b><a><b>", "<a><b>" + NESTED), "<a>{<b>}{<a>{<b>}}", 1, "{<a>{<b>}}");
        tidies(laid(PLAIN + "<a><b><b>", NESTED + "<a><b>"), "{<a>{<b>}}<a>{<b>}", 1, "{<a>{<b>}}");
        // The same behind a tag.
        tidies(laid("<x>" + PLAIN + NESTED, "<x>" + NESTED + PLAIN), "<x>{<a>{<b>}}{<a>{<b>}}", 1, "<x>{<a>{<b>}}");
        tidies(laid("<x><a><b><b><a><b><a><b>", "<x><a><b>" + NESTED), "<x><a>{<b>}{<a>{<b>}}", 1, "<x>{<a>{<b>}}");
        tidies(laid("<x>" + PLAIN + "<a><b><b>", "<x>" + NESTED + "<a><b>"), "<x>{<a>{<b>}}<a>{<b>}", 1,
            "<x>{<a>{<b>}}");
        // Folded once.
        tidies(laid("<a><b><a><b><b>", "<a><b><b><a><b>"), "<a>{<b>}<a>{<b>}", 1, "{<a>{<b>}}");
        // An option folds along with a tag, and words become a field.
        tidies(laid("<b><a>x<a><c>x", "<a><c>x<a>x<c><c>"), "[<b>]<a>[<c>] x <a>[<c>] x [{<c>}]", 1,
            "[<b>]{<a>[<c>] x }[{<c>}]");
        tidies(laid("<b><a>x<a><c>z", "<a><c>x<a>z<c><c>"), "[<b>]<a>[<c>] x <a>[<c>] z [{<c>}]", 1,
            "[<b>]{<a>[<c>]?}[{<c>}]");
        // What is in an option, in a repeat, is tidied first.
        tidies(laid("<a><b><a><b><b>", "<a><b><b><a><b>", "<q>"), "[<a>{<b>}<a>{<b>}][<q>]", 1, "[{<a>{<b>}}][<q>]");
        tidies(laid(many("<u>" + PLAIN + NESTED + "<v>", 2), many("<u>" + NESTED + PLAIN + "<v>", 2)),
            "{<u>{<a>{<b>}}{<a>{<b>}}<v>}", 1, "{<u>{<a>{<b>}}<v>}");
        moreTidying();
    }

    private static void moreTidying() {
        // The rows inside, each, and then what these have become: three of one kind are one repeat.
        String first = "<u>" + PLAIN + NESTED + "<v><u>" + NESTED + "<v>";
        String second = "<u>" + NESTED + PLAIN + "<v><u>" + NESTED + "<v>";
        PageSkeleton x = laid(first, second);
        tidies(x, "<u>{<a>{<b>}}{<a>{<b>}}<v><u>{<a>{<b>}}<v>", 2, "{<u>{<a>{<b>}}<v>}");
        is("costs stay", x.told(8), 0);
        is("what fits still fits", x.fitting(), 3);
        tidies(laid(PLAIN + NESTED + "<c><d><c><d><d>", NESTED + PLAIN + "<c><d><d><c><d>"),
            "{<a>{<b>}}{<a>{<b>}}<c>{<d>}<c>{<d>}", 2, "{<a>{<b>}}{<c>{<d>}}");
    }

    private static void tidiedAsked() {
        PageSkeleton x = laid(PLAIN + NESTED, NESTED + PLAIN);
        tell(x, "<a><b>");
        int[] due = {1, 2, 4, 3};
        for (int what = 0; what < 4; what++) {
            is("tidied(" + what + ")", x.tidied(what), due[what]);
        }
        is("only two fit yet", x.fitting(), 3);
        skeletonIs(x, "{<a>{<b>}}{<a>{<b>}}");
        is("nothing to take back more", x.told(7), 2);
        noArgument(x, "tidied(-1)", () -> x.tidied(-1));
        noArgument(x, "tidied(4)", () -> x.tidied(4));
        PageSkeleton none = of("<a>");
        for (int what = 0; what < 4; what++) {
            is("tidied(" + what + ") of none", none.tidied(what), 0);
        }
    }

    private static void undoing() {
        PageSkeleton x = of("<a>x", "<a>y", "<b>");
        is("none", x.undo(), -1);
        x.lay(0);
        x.lay(1);
        x.lay(2);
        skeletonIs(x, "[<a>?][<b>]");
        is("its size", x.undo(), 2);
        skeletonIs(x, "<a>?");
        is("costs", x.told(8), 1);
        x.undo();
        skeletonIs(x, "<a> x ");
        is("to nothing", x.undo(), 0);
        is("none", x.undo(), -1);
        is("the first again", x.lay(1), 0);
        skeletonIs(x, "<a> y ");
        for (int i = 0; i < 20; i++) {
            x.lay(i % 3);
        }
        is("the latest 16", x.told(7), 16);
        for (int i = 0; i < 16; i++) {
            is("taken back", x.undo() >= 0, true);
        }
        is("no more", x.undo(), -1);
        is("there is one yet", x.told(3) > 0, true);
        is("none", x.told(7), 0);
    }

    private static void clearing() {
        PageSkeleton x = laid("<a>x", "<a>y<b>");
        is("its size", x.clear(), 3);
        is("none", x.told(2), 0);
        is("nothing can be taken back", x.undo(), -1);
        is("pages stay", x.told(0), 2);
        is("again", x.clear(), 0);
        is("the first again", x.lay(1), 0);
        is("one", x.told(7), 1);
        is("to nothing", x.undo(), 0);
    }

    private static void telling() {
        PageSkeleton x = laid("<a>x<b><a>x<b>", "<a>y<b><c>");
        feed(x, "q");
        int[] due = {2, 5, 6, 4, 1, 1, 1, 2, 2, 20};
        for (int what = 0; what < 10; what++) {
            is("told(" + what + ")", x.told(what), due[what]);
        }
        noArgument(x, "told(-1)", () -> x.told(-1));
        noArgument(x, "told(10)", () -> x.told(10));
    }

    private static void ofPages() {
        PageSkeleton x = of("<u><l>x</l><l>y</l></u><u><l>x</l><l>x</l></u>q", "x x x x");
        int[] due = {17, 8, 6, 2, 2};
        int[] words = {4, 4, 4, 0, 0};
        for (int what = 0; what < 5; what++) {
            is("pageOf(0, " + what + ")", x.pageOf(0, what), due[what]);
            is("pageOf(1, " + what + ")", x.pageOf(1, what), words[what]);
        }
        noElement(x, "pageOf(2, 0)", () -> x.pageOf(2, 0));
        noElement(x, "pageOf(-1, 9)", () -> x.pageOf(-1, 9));
        noArgument(x, "pageOf(0, 5)", () -> x.pageOf(0, 5));
        noArgument(x, "pageOf(0, -1)", () -> x.pageOf(0, -1));
        deepPages();
    }

    private static void deepPages() {
        // Two repeats side by side that came to be one behind the other are a repeat of a repeat.
        PageSkeleton x = of(many("<a><b>" + many("<p><q><r><s>", 2), 4));
        is("repeats", x.pageOf(0, 3), 3);
        is("how deep", x.pageOf(0, 4), 3);
        is("nodes", x.pageOf(0, 1), 9);
    }

    private static void tokens() {
        PageSkeleton x = of("<a>a</a> a <b>");
        int[] due = {0, 1, 2, 1, 3};
        for (int k = 0; k < 5; k++) {
            is("token(0, " + k + ")", x.token(0, k), due[k]);
        }
        noElement(x, "token(0, 5)", () -> x.token(0, 5));
        noElement(x, "token(0, -1)", () -> x.token(0, -1));
        noElement(x, "token(1, 0)", () -> x.token(1, 0));
        noElement(x, "token(MIN, MAX)", () -> x.token(Integer.MIN_VALUE, Integer.MAX_VALUE));
    }

    private static void ofTokens() {
        PageSkeleton x = of("<zaz></abcdef>z<zaz>", "z zz <zaz>", "z");
        int[][] due = {{0, 3, 25, 0, 25, -1, -1, -1, 2}, {1, 6, 0, 1, 2, 3, 4, 5, 1},
            {2, 1, 25, -1, -1, -1, -1, -1, 3}, {2, 2, 25, 25, -1, -1, -1, -1, 1}};
        for (int token = 0; token < due.length; token++) {
            for (int what = 0; what < 9; what++) {
                is("tokenOf(" + token + ", " + what + ")", x.tokenOf(token, what), due[token][what]);
            }
        }
        noElement(x, "tokenOf(4, 0)", () -> x.tokenOf(4, 0));
        noElement(x, "tokenOf(-1, 99)", () -> x.tokenOf(-1, 99));
        noArgument(x, "tokenOf(0, 9)", () -> x.tokenOf(0, 9));
        noArgument(x, "tokenOf(0, -1)", () -> x.tokenOf(0, -1));
    }

    private static void nodes() {
        PageSkeleton x = laid("<u><l>x<u><l>y<v>", "<u>z<u>z w");
        skeletonIs(x, "{<u>[<l>]?}[<v>][ w ]");
        int[][] due = {{4, -1, 0, -1, 3, 3}, {0, 0, 1, 0, 1, 0}, {3, -1, 1, 0, 1, 1}, {0, 1, 2, 2, 1, 0},
            {2, -1, 1, 0, 1, 0}, {3, -1, 0, -1, 1, 1}, {0, 4, 1, 5, 1, 0}, {3, -1, 0, -1, 1, 1},
            {1, 6, 1, 7, 1, 0}};
        for (int node = 0; node < due.length; node++) {
            for (int what = 0; what < 6; what++) {
                is("node(" + node + ", " + what + ")", x.node(node, what), due[node][what]);
            }
        }
        noElement(x, "node(9, 0)", () -> x.node(9, 0));
        noElement(x, "node(-1, 6)", () -> x.node(-1, 6));
        noArgument(x, "node(0, 6)", () -> x.node(0, 6));
        noArgument(x, "node(0, -1)", () -> x.node(0, -1));
    }

    private static void pageNodes() {
        PageSkeleton x = of("<h>x", "x<u>y<u>y");
        int[][] due = {{4, -1, 0, -1, 2, 2}, {2, -1, 1, 0, 1, 0}, {0, 2, 1, 0, 1, 0}, {1, 3, 0, -1, 1, 0}};
        for (int node = 0; node < due.length; node++) {
            for (int what = 0; what < 6; what++) {
                is("pageNode(1, " + node + ", " + what + ")", x.pageNode(1, node, what), due[node][what]);
            }
        }
        noElement(x, "pageNode(1, 4, 0)", () -> x.pageNode(1, 4, 0));
        noElement(x, "pageNode(2, 0, 0)", () -> x.pageNode(2, 0, 0));
        noElement(x, "pageNode(0, -1, 7)", () -> x.pageNode(0, -1, 7));
        noArgument(x, "pageNode(0, 0, 6)", () -> x.pageNode(0, 0, 6));
    }

    private static void fitsAsked() {
        PageSkeleton x = of("<a>x", "<a>x<a>y", "<a>y<b>", "<a>", "<a>x<a>q<a>r<b>", "<a>x<a>", "<b>");
        is("no skeleton", x.fits(0), false);
        x.lay(0);
        x.lay(1);
        x.lay(2);
        skeletonIs(x, "{<a>?}[<b>]");
        boolean[] due = {true, true, true, false, true, false, false};
        for (int page = 0; page < due.length; page++) {
            is("fits(" + page + ")", x.fits(page), due[page]);
        }
        noElement(x, "fits(7)", () -> x.fits(7) ? 1 : 0);
        noElement(x, "fits(-1)", () -> x.fits(-1) ? 1 : 0);
        PageSkeleton word = laid("<a>x");
        tell(word, "<a>y");
        is("a word takes just that", word.fits(1), false);
    }

    private static void reaching() {
        PageSkeleton x = laid("<a>x<b><a>y<b><c>", "<a>x<b>");
        skeletonIs(x, "{<a>?<b>}[<c>]");
        tell(x, "<a>z<b><a>z<c>");
        tell(x, "<c>");
        tell(x, "<a>z<b><c><c>");
        int[] due = {7, 3, 5, 0, 4};
        for (int page = 0; page < due.length; page++) {
            is("reach(" + page + ")", x.reach(page), due[page]);
        }
        x.clear();
        is("no skeleton", x.reach(0), 0);
        noElement(x, "reach(5)", () -> x.reach(5));
    }

    private static void waysAsked() {
        PageSkeleton x = twoOptions();
        int[] due = {1, 1, 1, 2, 0};
        for (int page = 0; page < due.length; page++) {
            is("ways(" + page + ")", x.ways(page), due[page]);
        }
        noElement(x, "ways(5)", () -> x.ways(5));
        noElement(x, "ways(-1)", () -> x.ways(-1));
        x.clear();
        is("no skeleton", x.ways(0), 0);
        // A repeat of a repeat: so many passes of the inner one, parted in every way.
        PageSkeleton y = laid(many("<a><b>" + many("<p><q><r><s>", 2), 4));
        skeletonIs(y, "{{<a><b>{<p><q><r><s>}}}");
        is("four parted", y.ways(0), 8);
        tell(y, many("<a><b><p><q><r><s>", 10));
        is("ten parted", y.ways(1), 512);
    }

    /** An option of any word, one of the word z; pages: q, none, y and z, z, another end. */
    private static PageSkeleton twoOptions() {
        PageSkeleton x = of("<a>q<b>", "<a><b>", "<a>y z<b>", "<a>z<b>", "<a>z<c>");
        x.lay(0);
        x.lay(1);
        x.lay(2);
        skeletonIs(x, "<a>[?][ z ]<b>");
        return x;
    }

    private static void timesAsked() {
        PageSkeleton x = laid("<u><l>x<u><l>y<v>", "<u>z<u>z w");
        int[][] due = {{1, 2, 2, 2, 2, 1, 1, 0, 0}, {1, 2, 0, 0, 2, 0, 0, 1, 1}};
        for (int page = 0; page < 2; page++) {
            for (int node = 0; node < 9; node++) {
                is("times(" + page + ", " + node + ")", x.times(page, node), due[page][node]);
            }
        }
        tell(x, "<v>");
        is("it does not fit", x.times(2, 0), -1);
        noElement(x, "times(3, 0)", () -> x.times(3, 0));
        noElement(x, "times(2, 9)", () -> x.times(2, 9));
        noElement(x, "times(0, -1)", () -> x.times(0, -1));
    }

    private static void passesAsked() {
        PageSkeleton x = laid("<u><l>x<l>y<v><u><l>x<l>y<v>", "<u><l>z<l>z<v>");
        skeletonIs(x, "{<u>{<l>?}<v>}");
        is("outer", x.passes(0, 0), 2);
        is("inner, in all", x.passes(0, 2), 4);
        is("inner, how often", x.times(0, 2), 2);
        is("once", x.passes(1, 0), 1);
        is("twice", x.passes(1, 2), 2);
        is("not a repeat", x.passes(0, 1), -1);
        tell(x, "<v>");
        is("it does not fit", x.passes(2, 0), -1);
        noElement(x, "passes(3, 0)", () -> x.passes(3, 0));
        noElement(x, "passes(0, 6)", () -> x.passes(0, 6));
        // A repeat in an option that is not there.
        PageSkeleton y = laid("<a><a><b>", "<b>");
        skeletonIs(y, "[{<a>}]<b>");
        is("not there", y.passes(1, 1), 0);
        is("there", y.passes(0, 1), 2);
        is("an option", y.passes(0, 0), -1);
    }

    private static void values() {
        PageSkeleton x = laid("<u>x<u>y", "<u>z");
        is("first", x.value(0, 2, 0), 1);
        is("second", x.value(0, 2, 1), 2);
        is("third", x.value(0, 2, 2), -1);
        is("below 0", x.value(0, 2, -1), -1);
        is("another page", x.value(1, 2, 0), 3);
        is("no field", x.value(0, 1, 0), -1);
        tell(x, "<u>");
        is("it does not fit", x.value(2, 2, 0), -1);
        noElement(x, "value(3, 2, 0)", () -> x.value(3, 2, 0));
        noElement(x, "value(0, 3, 0)", () -> x.value(0, 3, 0));
    }

    private static void takers() {
        PageSkeleton x = laid("<u><l>x<u><l>y<v>", "<u>z<u>z w");
        int[] first = {1, 3, 4, 1, 3, 4, 6};
        int[] second = {1, 4, 1, 4, 8};
        for (int k = 0; k < first.length; k++) {
            is("taker(0, " + k + ")", x.taker(0, k), first[k]);
        }
        for (int k = 0; k < second.length; k++) {
            is("taker(1, " + k + ")", x.taker(1, k), second[k]);
        }
        tell(x, "<v>");
        is("it does not fit", x.taker(2, 0), -1);
        noElement(x, "taker(2, 1)", () -> x.taker(2, 1));
        noElement(x, "taker(0, -1)", () -> x.taker(0, -1));
        noElement(x, "taker(3, 0)", () -> x.taker(3, 0));
        // The walk: an option is there ahead of not, and one pass more ahead of none.
        PageSkeleton y = twoOptions();
        is("the first option", y.taker(3, 1), 2);
        is("not the second one", y.times(3, 3), 0);
        PageSkeleton z = laid(many("<a><b>" + many("<p><q><r><s>", 2), 4));
        is("the outer one once", z.passes(0, 0), 1);
        is("the inner one four times", z.passes(0, 1), 4);
    }

    private static void unlikeWords() {
        PageSkeleton x = laid("<u>x<u>y<u>x", "<u>z", "<u>y");
        is("three", x.unlike(2), 3);
        is("no field", x.unlike(1), -1);
        tell(x, "<u>q<v>");
        is("those that fit alone", x.unlike(2), 3);
        tell(x, "<u>q");
        is("laid or not", x.unlike(2), 4);
        noElement(x, "unlike(3)", () -> x.unlike(3));
        noElement(x, "unlike(-1)", () -> x.unlike(-1));
    }

    private static void wouldAsked() {
        PageSkeleton x = of("<a>x<a>y", "<a>x<b>", tags('q', 60), tags('r', 60), tags('s', 60));
        is("from nothing", x.would(0, 0), 0);
        is("its size", x.would(0, 1), 2);
        is("its nodes", x.would(0, 2), 3);
        x.lay(0);
        is("cost", x.would(1, 0), 1);
        is("size", x.would(1, 1), 3);
        is("nodes", x.would(1, 2), 5);
        is("nothing changed", x.told(2), 3);
        x.clear();
        x.lay(2);
        x.lay(3);
        is("beyond 160", x.would(4, 1), 180);
        is("cost", x.would(4, 0), 60);
        noElement(x, "would(5, 0)", () -> x.would(5, 0));
        noElement(x, "would(-1, 9)", () -> x.would(-1, 9));
        noArgument(x, "would(0, 3)", () -> x.would(0, 3));
        noArgument(x, "would(0, -1)", () -> x.would(0, -1));
    }

    private static void distances() {
        PageSkeleton x = of("<a>x<b>", "<a>y<c><c>", "<a>x<b><a>x<b>");
        is("0 to itself", x.distance(0, 0), 0);
        is("a word, a tag, a repeat", x.distance(0, 1), 3);
        is("the other way", x.distance(1, 0), 3);
        is("a repeat of it", x.distance(2, 0), 0);
        noElement(x, "distance(0, 3)", () -> x.distance(0, 3));
        noElement(x, "distance(-1, 0)", () -> x.distance(-1, 0));
    }

    private static void nearestAsked() {
        PageSkeleton x = of("<a>x<b>");
        is("no other", x.nearest(0), -1);
        tell(x, "<a>y<b>");
        tell(x, "<a>z<b>");
        tell(x, "<q>");
        tell(x, "<a>x<b><a>x<b>");
        is("the least cost", x.nearest(0), 4);
        is("of alike ones the least number", x.nearest(1), 0);
        is("of alike ones the least number", x.nearest(2), 0);
        noElement(x, "nearest(5)", () -> x.nearest(5));
        noElement(x, "nearest(-1)", () -> x.nearest(-1));
    }

    private static void ordersAsked() {
        PageSkeleton x = new PageSkeleton();
        noState(x, "none", () -> x.orders(0));
        noArgument(x, "wrong", () -> x.orders(4));
        tell(x, "<a>");
        int[] one = {1, 0, 0, 1};
        for (int what = 0; what < 4; what++) {
            is("orders(" + what + ") of one", x.orders(what), one[what]);
        }
        tell(x, "<b>");
        // [<a>][<b>] and [<b>][<a>].
        int[] two = {2, 2, 0, 1};
        for (int what = 0; what < 4; what++) {
            is("orders(" + what + ") of two", x.orders(what), two[what]);
        }
        tell(x, "<a><b>");
        // 0 1 2: 2, then 0 each; 0 2 1: 1, then 1 for <a>; 1 2 0 likewise; 2 0 1: 1 and 1.
        is("of three", x.orders(1), 2);
        is("the first", x.orders(2), 0);
        tell(x, "<a>");
        is("of four", x.orders(1), 2);
        tell(x, "<a>");
        noState(x, "five", () -> x.orders(0));
        noArgument(x, "five, wrongly asked", () -> x.orders(-1));
    }

    private static void shortestAsked() {
        PageSkeleton x = laid("<a>x<a>y<b>", "<a>z");
        is("a repeat once, no option", x.shortest(), 2);
        PageSkeleton y = laid("<a>", "<b>");
        is("options alone", y.shortest(), 0);
        is("none", new PageSkeleton().shortest(), 0);
    }

    private static void firmAsked() {
        PageSkeleton x = laid("w<h><u><l>x<u><l>y<v>", "w<h><u>z<u>z");
        skeletonIs(x, " w <h>{<u>[<l>]?}[<v>]");
        is("in no option", x.firm(0), 3);
        is("in no repeat", x.firm(1), 3);
        is("in neither", x.firm(2), 2);
        noArgument(x, "firm(3)", () -> x.firm(3));
        noArgument(x, "firm(-1)", () -> x.firm(-1));
    }

    private static void alikeAsked() {
        PageSkeleton x = laid("w<h><a>x<a>y<b>z<b>z<c>", "w<h><a>x<a>y<b>z<b>z<q><a>q");
        skeletonIs(x, " w <h>{<a>?}{<b> z }[<c>][<q><a> q ]");
        is("a word and a field", x.alike(0, 4), true);
        is("two words", x.alike(0, 7), true);
        is("itself", x.alike(2, 2), true);
        is("two repeats", x.alike(2, 5), false);
        is("the same tag", x.alike(3, 12), true);
        is("another tag", x.alike(3, 6), false);
        is("a tag and a word", x.alike(0, 1), false);
        is("two options", x.alike(8, 10), false);
        noElement(x, "alike(0, 14)", () -> x.alike(0, 14) ? 1 : 0);
        PageSkeleton y = laid(PLAIN + NESTED, NESTED + PLAIN);
        is("two repeats that are", y.alike(0, 4), true);
        is("one in the other", y.alike(0, 2), false);
        is("a tag and a repeat", y.alike(1, 2), false);
        noElement(x, "alike(-1, 0)", () -> x.alike(-1, 0) ? 1 : 0);
    }

    private static void cutsAsked() {
        PageSkeleton x = laid("<a>x<b><a>y<b><c>", "<a>x<b>");
        tell(x, "<c><a>z<q><b><a>z<c>");
        tell(x, "<a><b>");
        is("none", x.cuts(0), 0);
        is("three", x.cuts(2), 4);
        is("never", x.cuts(3), -1);
        x.clear();
        is("all", x.cuts(3), 2);
        PageSkeleton y = laid("<a>", "<b>");
        tell(y, "<c><c>");
        is("none left", y.cuts(2), 2);
        noElement(y, "cuts(3)", () -> y.cuts(3));
        noElement(y, "cuts(-1)", () -> y.cuts(-1));
    }

    private static void derivedAsked() {
        PageSkeleton x = laid("<a><a>", "<b><b>");
        skeletonIs(x, "[{<a>}][{<b>}]");
        is("0", x.derived(0), 1);
        is("1", x.derived(1), 2);
        is("60", x.derived(60), 61);
        is("none", new PageSkeleton().derived(0), 1);
        is("none", new PageSkeleton().derived(60), 0);
        noArgument(x, "derived(-1)", () -> x.derived(-1));
        noArgument(x, "derived(61)", () -> x.derived(61));
        PageSkeleton y = laid(many("<a><a><b><b><c><c><d><d>", 2), "<q>");
        PageSkeleton z = laid("<a><a><b><b><c><c><d><d><e><e><f><f><g><g><h><h><i><i><j><j><k><k>");
        is("at most", z.derived(60), 1000000000);
        is("eleven repeats take 12 tokens", z.derived(12), 11);
        is("nested", y.derived(0), 1);
    }

    private static void commonAsked() {
        PageSkeleton x = of("<a>x<b>y<c>", "y<a><b>x<c>", "<q>");
        is("three", x.common(0, 1), 3);
        is("the other way", x.common(1, 0), 3);
        is("itself", x.common(0, 0), 5);
        is("none", x.common(0, 2), 0);
        noElement(x, "common(0, 3)", () -> x.common(0, 3));
        noElement(x, "common(3, 0)", () -> x.common(3, 0));
    }

    private static void similarAsked() {
        PageSkeleton x = of("<a>x<b>", "<a>y<b>", "<a>x<a>y<b>", "<a>q<a>q<a>q<b>", "<a>x<b>x", "<a><b>");
        is("words", x.similar(0, 1), true);
        is("itself", x.similar(2, 2), true);
        is("a repeat", x.similar(0, 2), false);
        is("repeats", x.similar(2, 3), true);
        is("more items", x.similar(0, 4), false);
        is("more items", x.similar(4, 0), false);
        is("a tag", x.similar(0, 5), false);
        noElement(x, "similar(0, 6)", () -> x.similar(0, 6) ? 1 : 0);
        noElement(x, "similar(-1, 0)", () -> x.similar(-1, 0) ? 1 : 0);
    }

    private static void steps() {
        PageSkeleton x = of("<q><a><a><a>x<b>y<b><a><a><a>x<b>y<b>", "x x x");
        // <a> three times at 1, then at 6; then x <b> twice at 2, at 4; then two of these are alike.
        int[][] due = {{1, 1, 3}, {1, 6, 3}, {2, 2, 2}, {2, 4, 2}, {2, 1, 2}};
        for (int k = 0; k < due.length; k++) {
            for (int what = 0; what < 3; what++) {
                is("step(0, " + k + ", " + what + ")", x.step(0, k, what), due[k][what]);
            }
        }
        is("no more", x.step(0, 5, 0), -1);
        is("below 0", x.step(0, -1, 0), -1);
        is("words alone", x.step(1, 0, 0), -1);
        noElement(x, "step(2, 0, 0)", () -> x.step(2, 0, 0));
        noElement(x, "step(2, 0, 3)", () -> x.step(2, 0, 3));
        noArgument(x, "step(0, 0, 3)", () -> x.step(0, 0, 3));
        noArgument(x, "step(0, -1, -1)", () -> x.step(0, -1, -1));
        is("the end", x.step(0, Integer.MAX_VALUE, 2), -1);
    }

    private static void usersAsked() {
        PageSkeleton x = laid("<u><l>x<u><l>y<v>", "<u>z<u>z w");
        int[] due = {3, 3, 1, 1, 3, 1, 1, 2, 2};
        for (int node = 0; node < due.length; node++) {
            is("users(" + node + ")", x.users(node), due[node]);
        }
        tell(x, "<u><q>");
        is("it does not fit", x.users(1), 3);
        noElement(x, "users(9)", () -> x.users(9));
        noElement(x, "users(-1)", () -> x.users(-1));
    }

    private static void greatestAsked() {
        PageSkeleton x = laid("<u><l>x<u><l>y<v>", "<u>z<u>z w");
        int[] due = {1, 2, 2, 2, 2, 1, 1, 1, 1};
        for (int node = 0; node < due.length; node++) {
            is("greatest(" + node + ")", x.greatest(node), due[node]);
        }
        noElement(x, "greatest(9)", () -> x.greatest(9));
        noElement(x, "greatest(-1)", () -> x.greatest(-1));
    }

    private static void fittingAsked() {
        PageSkeleton x = of("<a>", "<b>", "<a>");
        is("no skeleton", x.fitting(), 0);
        x.lay(0);
        is("two", x.fitting(), 5);
        x.lay(1);
        is("all", x.fitting(), 7);
        x.undo();
        is("two", x.fitting(), 5);
        is("no pages", new PageSkeleton().fitting(), 0);
    }

    private static void statusAsked() {
        PageSkeleton x = of("<a>");
        noElement(x, "lay(1)", () -> x.lay(1));
        noElement(x, "node(0, 9)", () -> x.node(0, 9));
        noArgument(x, "pageOf(0, 9)", () -> x.pageOf(0, 9));
        is("elements", x.status(0), 2);
        is("arguments", x.status(1), 1);
        is("states", x.status(2), 0);
        is("status(3)", x.status(3), -1);
        is("status(-1)", x.status(-1), -1);
        is("status(MIN)", x.status(Integer.MIN_VALUE), -1);
        x.undo();
        tell(x, "<");
        is("a fault is no refusal", x.status(0) + x.status(1) + x.status(2), 3);
    }
}
