/** The sentences about items, folding, laying and tidying that name a boundary: a test for each. */
public final class RowEdgeTest extends Checks {
    public static void main(String[] args) {
        sentence("n 2 at least", RowEdgeTest::twoAtLeast);
        sentence("with a TAG or a REPEAT among them", RowEdgeTest::tagOrRepeatAmongThem);
        sentence("the one with the least L", RowEdgeTest::leastLength);
        sentence("of these the one that begins first", RowEdgeTest::beginsFirst);
        sentence("as many of them as there are", RowEdgeTest::asManyAsThereAre);
        sentence("as long as there are such", RowEdgeTest::asLongAsThereAreSuch);
        sentence("FUSED (the first with the second one, that with the third)", RowEdgeTest::fusedOneByOne);
        sentence("how deep these are (one inside another; 0 without)", RowEdgeTest::howDeep);
        sentence("NONE: there are not so many, or k is below 0", RowEdgeTest::stepsThatAreNot);
        sentence("SIZE: how many TAGS, WORDS, FIELDS it is, or are in it", RowEdgeTest::sizes);
        sentence("numbered from 0 on as they begin, each ahead of what is in it", RowEdgeTest::nodeOrder);
        sentence("ALIKE: the same TAG; any two of WORDS, FIELDS", RowEdgeTest::alikeLeaves);
        sentence("two OPTIONS, two REPEATS that have as many ITEMS, ALIKE one by one", RowEdgeTest::alikeRows);
        sentence("two PAGES, FOLDED, have as many ITEMS, ALIKE one by one", RowEdgeTest::alikePages);
        sentence("COSTS: 1 for each two unlike WORDS", RowEdgeTest::unlikeWordsCost);
        sentence("the first PAGE that is laid is it, FOLDED (COST 0)", RowEdgeTest::firstPage);
        sentence("WAY 1: the same TAG, or each a WORD or a FIELD", RowEdgeTest::wayOneLeaves);
        sentence("WAY 1: both are REPEATS", RowEdgeTest::wayOneRepeats);
        sentence("not, if that is of OPTIONS alone", RowEdgeTest::optionsAlone);
        sentence("WAY 2: ITEMS in it are ALIKE to as many next ones of P", RowEdgeTest::wayTwo);
        sentence("WAY 3: ITEMS in it are ALIKE to as many next ones of S", RowEdgeTest::wayThree);
        sentence("WAY 4: an OPTION stays; any other one at a COST of its SIZE", RowEdgeTest::wayFour);
        sentence("WAY 5: made part of an OPTION, at a COST of its SIZE", RowEdgeTest::wayFive);
        sentence("where one row is at its end, 4 or 5 alone can be", RowEdgeTest::rowAtItsEnd);
        sentence("of all such ways that of the least COST", RowEdgeTest::leastCost);
        sentence("of several the one whose first WAY has the lesser number", RowEdgeTest::lesserWayFirst);
        sentence("by 4, one right behind the other, are in one OPTION; by 5 in another", RowEdgeTest::grouped);
        sentence("its SIZE would be more than 160 (it stays as it is)", RowEdgeTest::sizeOf160);
        sentence("SIZE that it would have, NODES", RowEdgeTest::wouldBe);
        sentence("two REPEATS, right behind one another, ALIKE, are one", RowEdgeTest::twins);
        sentence("as many ITEMS right ahead of it as are in it", RowEdgeTest::rightAhead);
        sentence("with such right behind it likewise", RowEdgeTest::rightBehind);
        sentence("it is FOLDED once, as a PAGE is", RowEdgeTest::foldedOnce);
        sentence("the first one of them, the leftmost, once", RowEdgeTest::firstOneOfThem);
        sentence("first each row that is in one of its ITEMS is TIDIED", RowEdgeTest::rowsInside);
        sentence("0: nothing is, nothing more can be taken back", RowEdgeTest::nothingToTidy);
        sentence("what FITS the SKELETON still FITS when it is TIDIED", RowEdgeTest::stillFits);
        end();
    }

    // ---- folding

    /** What it is folded, and the steps of it, three numbers each. */
    private static void folds(String page, String due, int... steps) {
        PageSkeleton x = of("<k>", page);
        same("folded '" + page + "'", folded(x, 1), due);
        for (int i = 0; i < steps.length; i++) {
            is("step " + i / 3 + " of '" + page + "', " + i % 3, x.step(1, i / 3, i % 3), steps[i]);
        }
        is("no more steps", x.step(1, steps.length / 3, 0), -1);
    }

    private static void twoAtLeast() {
        folds("<a>", "<a>");
        folds("<a><b>", "<a><b>");
        folds("<a></a>", "<a></a>");
        folds("<a><b><a>", "<a><b><a>");
        folds("<a><a>", "{<a>}", 1, 0, 2);
        folds("<a>x<a>y", "{<a>?}", 2, 0, 2);
        folds(tags('a', 60), tags('a', 60));
        // The longest that can be there twice, and the most that there can be of one.
        folds(many(tags('a', 30), 2), "{" + tags('a', 30) + "}", 30, 0, 2);
        folds(many("<a>", 60), "{<a>}", 1, 0, 60);
        folds(many("<a>x ", 30), "{<a> x }", 2, 0, 30);
        folds(many(tags('a', 20), 3), "{" + tags('a', 20) + "}", 20, 0, 3);
        folds("<k>" + many(tags('a', 29), 2) + "<k>", "<k>{" + tags('a', 29) + "}<k>", 29, 1, 2);
    }

    private static void tagOrRepeatAmongThem() {
        folds("x", " x ");
        folds("x x", " x  x ");
        folds(many("x ", 60), many(" x ", 60));
        folds("x y x y", " x  y  x  y ");
        folds("<a>x x x<b>", "<a> x  x  x <b>");
        // A tag is enough, wherever it is among them.
        folds("x y<a>z x<b>", " x  y <a> z  x <b>");
        folds("x y<a>z x<a>", "{??<a>}", 3, 0, 2);
        // A repeat is enough, without a tag beside it.
        folds("x<a><a>y<a><a><a>", "{?{<a>}}", 1, 1, 2, 1, 3, 3, 2, 0, 2);
    }

    private static void leastLength() {
        folds("<a><b><a><b><c><c>", "{<a><b>}{<c>}", 1, 4, 2, 2, 0, 2);
        folds("<a><b><c><a><b><c><d>x<d>x", "{<a><b><c>}{<d> x }", 2, 6, 2, 3, 0, 2);
        // Shorter ones inside longer ones first.
        folds("<a><b><b><a><b><b>", "{<a>{<b>}}", 1, 1, 2, 1, 3, 2, 2, 0, 2);
        // <a><b> twice is found ahead of <a><b><a><b> twice.
        folds("<a><b><a><b><a><b><a><b>", "{<a><b>}", 2, 0, 4);
    }

    private static void beginsFirst() {
        folds("<a><a><b><b>", "{<a>}{<b>}", 1, 0, 2, 1, 1, 2);
        // As many steps as thirty of a length of 1.
        int[] steps = new int[90];
        StringBuilder pairs = new StringBuilder();
        StringBuilder folded = new StringBuilder();
        for (int i = 0; i < 30; i++) {
            String tag = tags('a', 30).substring(i * 5, i * 5 + 5);
            pairs.append(tag).append(tag);
            folded.append("{").append(tag).append("}");
            steps[i * 3] = 1;
            steps[i * 3 + 1] = i;
            steps[i * 3 + 2] = 2;
        }
        folds(pairs.toString(), folded.toString(), steps);
        folds("<a>x<a>x<a>", "{<a> x }<a>", 2, 0, 2);
        folds("x<a>x<a>x", "{ x <a>} x ", 2, 0, 2);
        folds("<b><a><b><a><b>", "{<b><a>}<b>", 2, 0, 2);
        folds("q x<a>y<a>", " q {?<a>}", 2, 1, 2);
    }

    private static void asManyAsThereAre() {
        folds("<a><a><a><a><a>", "{<a>}", 1, 0, 5);
        folds("<a>x<a>y<a>z<b>", "{<a>?}<b>", 2, 0, 3);
        // Not one that is there in part.
        folds("<a><b><c><a><b><c><a><b>", "{<a><b><c>}<a><b>", 3, 0, 2);
        folds("<b><a><a><a><b><a><a>", "{<b>{<a>}}", 1, 1, 3, 1, 3, 2, 2, 0, 2);
        folds("<a>x<a>y<b>x<a>z<a>z", "{<a>?}<b>{?<a>} z ", 2, 0, 2, 2, 2, 2);
    }

    private static void asLongAsThereAreSuch() {
        // Repeats that come to stand side by side are folded, too: of four, two by two.
        String one = "<a><b>" + many("<p><q><r>", 2);
        folds(many(one, 2), "{<a><b>{<p><q><r>}}", 3, 2, 2, 3, 5, 2, 3, 0, 2);
        folds("<u>" + many("<l>x</l>", 2) + "</u><u>" + many("<l>x</l>", 3) + "</u>", "{<u>{<l> x </l>}</u>}",
            3, 1, 2, 3, 4, 3, 3, 0, 2);
    }

    private static void fusedOneByOne() {
        folds("<a>x<a>x<a>x", "{<a> x }", 2, 0, 3);
        folds("<a>y<a>x<a>x", "{<a>?}", 2, 0, 3);
        folds("<a>x<a>y<a>x", "{<a>?}", 2, 0, 3);
        folds("<a>x<a>x<a>y", "{<a>?}", 2, 0, 3);
        folds("<a>x z<a>y z", "{<a>? z }", 3, 0, 2);
        // Repeats with the ones in them, fields with words, and repeats as many times or not.
        folds("<u><a>x<a>x<v><u><a>y<a>y<v>", "{<u>{<a>?}<v>}", 2, 1, 2, 2, 4, 2, 3, 0, 2);
        folds("<u><a>x<a>y<v><u><a>x<a>x<v>", "{<u>{<a>?}<v>}", 2, 1, 2, 2, 4, 2, 3, 0, 2);
    }

    private static void howDeep() {
        PageSkeleton x = of("<a>", "x x", "<a><a>", "<a><a><b><b>", "<a><b><b><a><b><b>",
            many("<a><b>" + many("<p><q><r><s>", 2), 4), many("<u><l>x<l>x<v>", 2) + "<w><w><w>");
        int[] due = {0, 0, 1, 1, 2, 3, 2};
        int[] repeats = {0, 0, 1, 2, 2, 3, 3};
        for (int page = 0; page < due.length; page++) {
            is("how deep " + page, x.pageOf(page, 4), due[page]);
            is("repeats of " + page, x.pageOf(page, 3), repeats[page]);
        }
    }

    private static void stepsThatAreNot() {
        PageSkeleton x = of("<a>", "<a><a><b><b>");
        for (int what = 0; what < 3; what++) {
            is("no step at all", x.step(0, 0, what), -1);
            is("the last", x.step(1, 1, what), new int[] {1, 1, 2}[what]);
            is("behind the last", x.step(1, 2, what), -1);
            is("below 0", x.step(1, -1, what), -1);
            // Three times these numbers begins anew where int ends.
            is("far behind", x.step(1, Integer.MAX_VALUE, what), -1);
            is("far behind", x.step(1, 0x55555556, what), -1);
            is("far below", x.step(1, Integer.MIN_VALUE, what), -1);
        }
    }

    // ---- items

    private static void sizes() {
        PageSkeleton x = laid("<u><l>x<u><l>y<v>", "<u>z<u>z w");
        skeletonIs(x, "{<u>[<l>]?}[<v>][ w ]");
        int[] due = {3, 1, 1, 1, 1, 1, 1, 1, 1};
        for (int node = 0; node < due.length; node++) {
            is("size of " + node, x.node(node, 4), due[node]);
        }
        is("of all", x.told(3), 5);
        PageSkeleton y = laid("<a><b><b><a><b><b>", "<q>");
        skeletonIs(y, "[{<a>{<b>}}][<q>]");
        is("of an option", y.node(0, 4), 2);
        is("of a repeat", y.node(1, 4), 2);
        is("of all", y.told(3), 3);
        is("of a page", y.pageOf(0, 2), 2);
        is("of a node of it", y.pageNode(0, 0, 4), 2);
        is("of none", new PageSkeleton().told(3), 0);
    }

    private static void nodeOrder() {
        PageSkeleton x = laid("<a><b><b><a><b><b>", "<q>");
        skeletonIs(x, "[{<a>{<b>}}][<q>]");
        int[][] due = {{3, 0, -1, 1}, {4, 1, 0, 2}, {0, 2, 1, 0}, {4, 2, 1, 1}, {0, 3, 3, 0}, {3, 0, -1, 1},
            {0, 1, 5, 0}};
        int[] asked = {0, 2, 3, 5};
        for (int node = 0; node < due.length; node++) {
            for (int i = 0; i < asked.length; i++) {
                is("node(" + node + ", " + asked[i] + ")", x.node(node, asked[i]), due[node][i]);
            }
        }
        is("nodes", x.told(2), 7);
        is("nodes of a page", x.pageOf(0, 1), 4);
        is("the innermost", x.pageNode(0, 3, 3), 2);
    }

    private static void alikeLeaves() {
        PageSkeleton x = laid("<a></a>x y<a>a x", "<a></a>x z<a>a x");
        skeletonIs(x, "<a></a> x ?<a> a  x ");
        boolean[][] due = {{true, false, false, false, true, false, false},
            {false, true, false, false, false, false, false}, {false, false, true, true, false, true, true},
            {false, false, true, true, false, true, true}};
        for (int node = 0; node < due.length; node++) {
            for (int other = 0; other < 7; other++) {
                is("alike(" + node + ", " + other + ")", x.alike(node, other), due[node][other]);
                is("alike(" + other + ", " + node + ")", x.alike(other, node), due[node][other]);
            }
        }
    }

    private static void alikeRows() {
        PageSkeleton x = laid("<a><a><b>", "<b><a>");
        skeletonIs(x, "[{<a>}]<b>[<a>]");
        is("a repeat and an option of the same", x.alike(1, 4), false);
        is("options of one each", x.alike(0, 4), false);
        is("an option and what is in it", x.alike(4, 5), false);
        PageSkeleton y = laid("<a><b>", "<b><a>");
        is("two options", y.alike(0, 3), true);
        PageSkeleton more = laid("<a><b>", "<b><a><c>");
        skeletonIs(more, "[<a>]<b>[<a><c>]");
        is("one more in it", more.alike(0, 3), false);
        is("one less in it", more.alike(3, 0), false);
        PageSkeleton two = laid("<a>x<b><c><d>", "<b><c><d><a>y");
        skeletonIs(two, "[<a> x ]<b><c><d>[<a> y ]");
        is("two each", two.alike(0, 6), true);
        PageSkeleton back = laid("<a>x<b><c><d>", "<b><c><d>y<a>");
        skeletonIs(back, "[<a> x ]<b><c><d>[ y <a>]");
        is("another order", back.alike(0, 6), false);
        PageSkeleton z = laid("<a>x<a>y<b><a>z<a>z<c><a><a>");
        skeletonIs(z, "{<a>?}<b>{<a> z }<c>{<a>}");
        is("repeats of two each", z.alike(0, 4), true);
        is("a repeat of one", z.alike(4, 8), false);
    }

    private static void alikePages() {
        PageSkeleton x = of("<a>", "<a><b>", "<a><a>", "x", "y", "<a>x<a>y", "<a>z<a>z<a>z", "<a>z<a>z<b>");
        for (int page = 0; page < 8; page++) {
            for (int other = 0; other < 8; other++) {
                int less = Math.min(page, other);
                int more = Math.max(page, other);
                boolean due = page == other || less == 3 && more == 4 || less == 5 && more == 6;
                is("similar(" + page + ", " + other + ")", x.similar(page, other), due);
            }
        }
    }

    // ---- laying

    /** The first ones laid, and what the last one costs and makes of it. */
    private static void lays(String due, int cost, String... texts) {
        PageSkeleton x = of(texts);
        int last = texts.length - 1;
        for (int page = 0; page < last; page++) {
            x.lay(page);
        }
        int before = x.told(8);
        String all = String.join("' '", texts);
        is("would cost, '" + all + "'", x.would(last, 0), cost);
        is("the cost of '" + all + "'", x.lay(last), cost);
        same("'" + all + "'", text(x), due);
        is("costs together", x.told(8), before + cost);
        is("it fits", x.fits(last), true);
    }

    private static void unlikeWordsCost() {
        lays("<a> x ", 0, "<a>x", "<a>x");
        lays("<a>?", 1, "<a>x", "<a>y");
        lays("<a>?", 0, "<a>x", "<a>y", "<a>z");
        lays("<a>?", 0, "<a>x", "<a>y", "<a>x");
        lays("<a>??", 2, "<a>x x", "<a>y y");
        lays("{<a>??}", 2, "<a>x x<a>x x", "<a>y y");
        lays("{<a>? x }", 1, "<a>x x", "<a>y x<a>y x");
        // A word and a field cost nothing, two fields neither, in whichever of the two they are.
        lays("{<a>?}", 0, "<a>x", "<a>y<a>z");
        lays("{<a>?}", 0, "<a>y<a>z", "<a>x");
        lays("{<a>?}", 0, "<a>y<a>z", "<a>x<a>w");
        lays("{<a>?}", 1, "<a>x<a>x", "<a>y<a>y");
    }

    private static void firstPage() {
        lays("<a>", 0, "<a>");
        lays("{<a>?}", 0, "<a>x<a>y");
        PageSkeleton x = of("<a>x<a>y", "<b>");
        is("the cost that it would have", x.would(0, 0), 0);
        is("its size", x.would(0, 1), 2);
        is("its nodes", x.would(0, 2), 3);
        x.lay(1);
        x.clear();
        is("the first behind clear()", x.lay(0), 0);
        skeletonIs(x, "{<a>?}");
        x.undo();
        is("the first behind undo()", x.lay(1), 0);
        skeletonIs(x, "<b>");
    }

    private static void wayOneLeaves() {
        lays("<a>", 0, "<a>", "<a>");
        lays("[<a>][</a>]", 2, "<a>", "</a>");
        lays("[<a>][ a ]", 2, "<a>", "a");
        lays(" a ", 0, "a", "a");
        lays("?", 1, "a", "b");
        lays("?", 0, "a", "b", "c");
        // Not in an option, where the word alone is left: it is taken whole or left out.
        lays("[<a> x ][ x ]<b>", 1, "<a>x<b>", "<b>", "x<b>");
    }

    private static void wayOneRepeats() {
        lays("{<u>?[<v>]}", 1, "<u>x<u>y", "<u>z<v><u>z<v>");
        lays("{<u>[ x ]}", 1, "<u>x<u>x", "<u><u>");
        lays("{<u>?}", 1, "<u>x<u>x", "<u>y<u>y<u>y");
        lays("{<u>{<l>[<m>]}}", 1, many("<u><l><l>", 2), many("<u><l><m><l><m>", 2));
        lays("{[<a>][<b>] x }", 2, "<a>x<a>x", "<b>x<b>x");
        lays("<p>{<a>[<b>]}<q>", 1, "<p><a><a><q>", "<p><a><b><a><b><q>");
        // What stands behind the two goes on, whatever was at the ends of them.
        lays("{<b>[<a>][<c>]}[<y>]<z>", 3, "<b><a><b><a><z>", "<b><c><b><c><y><z>");
        lays("{<b>[<a>][<c>]}[<y>][<w>]<z>", 4, "<b><a><b><a><y><z>", "<b><c><b><c><w><z>");
    }

    private static void optionsAlone() {
        lays("[{<a>}][{<b>}]", 2, "<a><a>", "<b><b>");
        lays("[{<a><b>}][{<c><d>}]", 4, "<a><b><a><b>", "<c><d><c><d>");
        lays("{[<a>]<b>[<c>]}", 2, "<a><b><a><b>", "<b><c><b><c>");
        // An option that takes what is laid is an option, too.
        lays("{[<a>]<b>}", 1, "<a><b><a><b>", "<b><b>");
        lays("[{[<a>]<b>}][{<a><c>}]", 4, "<a><b><a><b>", "<b><b>", "<a><c><a><c>");
        // A field, a repeat are none.
        lays("{[<a>]?[<b>]}", 3, "<a>x<a>x", "y<b>y<b>");
        lays("{[<a>]{<l>}[<b>]}", 2, many("<a><l><l>", 2), many("<l><l><b>", 2));
        // One that is of options alone is left out, at its size, inside another as well.
        lays("{<u>[{<a>}][{<b>}]}", 2, many("<u><a><a>", 2), many("<u><b><b>", 2));
    }

    private static void wayTwo() {
        // An option takes as many as are in it, not fewer, up to the end of the page.
        lays("[<a><b>]<c>", 2, "<a><b><c>", "<c>");
        lays("[<a><b>]<c>", 0, "<a><b><c>", "<c>", "<a><b><c>");
        lays("[<a><b>][<a>]<c>", 1, "<a><b><c>", "<c>", "<a><c>");
        lays("[<a><b>][<c>]", 1, "<a><b><c>", "<c>", "<a><b>");
        lays("[<a><b>][<c>][<a>]", 2, "<a><b><c>", "<c>", "<a>");
        lays("[?]<b>", 1, "x<b>", "<b>", "y<b>");
        lays("[{<a>?}]<b>", 0, "<a>x<a>y<b>", "<b>", "<a>z<a>w<b>");
        // A repeat in an option takes none of a single one: it is in the option.
        lays("[{<a>}][<a>]<b>", 1, "<a><a><b>", "<b>", "<a><b>");
        // A repeat takes as many as are in it, once.
        lays("{<a> x }", 0, "<a>x<a>x", "<a>x");
        lays("{<a>?}<b>", 1, "<a>x<a>x<b>", "<a>y<b>");
        lays("{<a>{<b>}}", 0, "<a><b><b><a><b><b>", "<a><b><b>");
        lays("[{<a> x }][<a>]", 3, "<a>x<a>x", "<a>");
        lays("[{<a><b>}]<a>[<c>]", 3, "<a><b><a><b><a>", "<a><c>");
    }

    private static void wayThree() {
        lays("{<a> x }<b>", 0, "<a>x<b>", "<a>x<a>x<b>");
        lays("{<a> x }", 0, "<a>x", "<a>x<a>x");
        lays("{<a>{<b>}}", 0, "<a><b><b>", "<a><b><b><a><b><b>");
        lays("[<a>][{<a> x }]", 3, "<a>", "<a>x<a>x");
        lays("<z>{<a>?}<b>", 1, "<z><a>x<b>", "<z><a>y<a>y<b>");
        // An option among the next ones of S is like nothing in a page.
        lays("[<a>][ x ][<b>][{<a> x <b>}]", 5, "<a>x<b>", "<a><b>", "<a>x<b><a>x<b>");
    }

    private static void wayFour() {
        lays("[<a>]<b>", 1, "<a><b>", "<b>");
        lays("[<a>]<b>", 0, "<a><b>", "<b>", "<b>");
        lays("[{<a> x }]<b>", 2, "<a>x<a>x<b>", "<b>");
        lays("[{<a>{<b>}}]<c>", 2, "<a><b><b><a><b><b><c>", "<c>");
        lays("[?]<b>", 1, "x<b>", "y<b>", "<b>");
        lays("[ x <a>{<b>}]<c>", 3, "x<a><b><b><c>", "<c>");
        // The size of what is left out counts the options in it.
        lays("[{[<a>]<b>}]<z>", 2, "<a><b><a><b><z>", "<b><b><z>", "<z>");
        // An option that stays costs nothing however much is in it.
        lays("[<a><b><c><d>]<e>", 0, "<a><b><c><d><e>", "<e>", "<e>");
    }

    private static void wayFive() {
        lays("[<a>]<b>", 1, "<b>", "<a><b>");
        lays("[{<a> x }]<b>", 2, "<b>", "<a>x<a>x<b>");
        lays("[{<a>{<b>}}]<c>", 2, "<c>", "<a><b><b><a><b><b><c>");
        lays("[ x <a>{<b>}]<c>", 3, "<c>", "x<a><b><b><c>");
    }

    private static void rowAtItsEnd() {
        lays("<a>[<b>]", 1, "<a><b>", "<a>");
        lays("<a>[<b>]", 1, "<a>", "<a><b>");
        lays("<a>[<b><c><d>]", 3, "<a><b><c><d>", "<a>");
        lays("<a>[<b><c><d>]", 3, "<a>", "<a><b><c><d>");
        lays("<a>[<b>]", 0, "<a><b>", "<a>", "<a>");
        lays("<a>[<b>][<c>]", 1, "<a><b>", "<a>", "<a><c>");
        lays("<a>[{<b>}]", 1, "<a>", "<a><b><b>");
        shorterThanBefore();
        lays("{<a>[<b>]}", 1, "<a><b><a><b>", "<a><a>");
        lays("{<a>[<b>]}", 1, "<a><a>", "<a><b><a><b>");
    }

    // The row was longer once: what stood there is no next one.
    private static void shorterThanBefore() {
        PageSkeleton x = of("<a><b>", "<a>", "<a><b><a><b>", "<c><c><c><c><c><d><a>", "<a><d><a><d>");
        x.lay(0);
        x.clear();
        x.lay(1);
        is("one item for a repeat of two", x.lay(2), 3);
        skeletonIs(x, "[<a>][{<a><b>}]");
        x.clear();
        x.lay(4);
        is("a page that was longer ahead of its folding", x.lay(3), 5);
        skeletonIs(x, "[{<a><d>}][{<c>}<d><a>]");
        x.clear();
        x.lay(2);
        x.lay(1);
        x.undo();
        x.undo();
        x.lay(1);
        is("behind what was taken back", x.lay(0), 1);
        skeletonIs(x, "<a>[<b>]");
    }

    private static void leastCost() {
        // The first way that could be gone is not always of the least cost.
        lays("[ y ] x <a>", 1, "x<a>", "y x<a>");
        lays("[ x ] y ", 1, "x y", "y");
        lays("[<a>]<b><c>[<a>]", 2, "<a><b><c>", "<b><c><a>");
        lays("[<a>]<b><c><d>[<a>]", 2, "<a><b><c><d>", "<b><c><d><a>");
        // A repeat left out whole may cost less than one laid against another one, and more.
        lays("[{<a> x }]{<b><c>}", 2, "<a>x<a>x<b><c><b><c>", "<b><c><b><c>");
        lays("{<a>[ x ][<b>]}", 2, "<a>x<a>x", "<a><b><a><b>");
    }

    private static void lesserWayFirst() {
        lays("?[ y ]", 2, "x y", "z");
        lays("?[ z ]", 2, "x", "y z");
        lays("[<a>][<b>]", 2, "<a>", "<b>");
        lays("[<a>]<b>[<a>]", 2, "<a><b>", "<b><a>");
        lays("[?]<b>", 1, "x<b>", "<b>", "y<b>");
        // 4 ahead of 5, and then 1.
        lays("[<a>][<b>]<c>", 2, "<a><c>", "<b><c>");
        // The first OPTION takes it, not the second one.
        PageSkeleton x = laid("w<b>", "<b>", "w w<b>", "z<b>");
        skeletonIs(x, "[?][ w ]<b>");
    }

    private static void grouped() {
        lays("[<a><b>]<c>", 2, "<a><b><c>", "<c>");
        lays("[<a><b>]<c>", 2, "<c>", "<a><b><c>");
        lays("[<a><b>][<c><d>]<z>", 4, "<a><b><z>", "<c><d><z>");
        lays("[<a>]<b>[<c>]", 2, "<a><b><c>", "<b>");
        lays("[<a>]<b>[<c>]", 2, "<b>", "<a><b><c>");
        // An option that stays is none of those made: it parts them, and takes none in.
        lays("[<a>][<b>][<c>]<d>", 2, "<a><b><c><d>", "<a><c><d>", "<d>");
        lays("[<b>][<c>]<d>", 1, "<b><c><d>", "<c><d>", "<d>");
        lays("[<a>][<b>]<d>", 1, "<a><b><d>", "<a><d>", "<d>");
        // Not across the ends of repeats.
        lays("{[<a>][<c>]<b>}", 2, "<a><b><a><b>", "<c><b><c><b>");
        lays("[<q>]{<a><b>}", 1, "<q><a><b><a><b>", "<a><b><a><b>");
        lays("[<q>]{[<a>]<b>}", 2, "<q><a><b><a><b>", "<b><b>");
        lays("{<b>[<a>]}[<q>]", 2, "<b><a><b><a><q>", "<b><b>");
        lays("[{<a>}<b>{<c>}]<d>", 3, "<a><a><b><c><c><d>", "<d>");
    }

    private static void sizeOf160() {
        PageSkeleton x = of(tags('a', 60), tags('b', 60), tags('c', 40), tags('c', 41), tags('c', 60));
        x.lay(0);
        x.lay(1);
        int[] sizes = {160, 161, 180};
        for (int page = 2; page < 5; page++) {
            is("it would be", x.would(page, 1), sizes[page - 2]);
            is("at the cost of", x.would(page, 0), sizes[page - 2] - 120);
        }
        noState(x, "161", () -> x.lay(3));
        noState(x, "180", () -> x.lay(4));
        noElement(x, "no page", () -> x.lay(5));
        is("nothing more to take back", x.told(7), 2);
        is("160", x.lay(2), 40);
        is("160", x.told(3), 160);
        noState(x, "more", () -> x.lay(3));
        is("what is there costs nothing", x.lay(1), 0);
        is("160 yet", x.told(3), 160);
        is("taken back", x.undo(), 160);
        is("taken back", x.undo(), 120);
    }

    private static void wouldBe() {
        PageSkeleton x = of(tags('a', 60), tags('b', 60), tags('c', 60), tags('d', 20) + many("<aaa>", 40));
        x.lay(0);
        x.lay(1);
        is("cost", x.would(2, 0), 60);
        is("size", x.would(2, 1), 180);
        is("nodes", x.would(2, 2), 183);
        is("it stays", x.told(3), 120);
        is("nodes of a fitting one", x.would(0, 2), 122);
        is("its size", x.would(0, 1), 120);
        is("its cost", x.would(0, 0), 0);
    }

    // ---- tidying

    // Each has a repeat of <a><b> where the other has one of <a> and many <b>.
    private static final String PLAIN = "<a><b><a><b>";
    private static final String NESTED = "<a><b><b><a><b><b>";

    private static void tidies(PageSkeleton x, String before, int done, String after) {
        skeletonIs(x, before);
        int back = x.told(7);
        int costs = x.told(8);
        int fitting = x.fitting();
        is("tidied(0) of " + before, x.tidied(0), done);
        int size = x.tidied(1);
        int nodes = x.tidied(2);
        int fit = x.tidied(3);
        skeletonIs(x, before);
        is("tidy() of " + before, x.tidy(), done);
        skeletonIs(x, after);
        is("its size", x.told(3), size);
        is("its nodes", x.told(2), nodes);
        is("pages that fit", Integer.bitCount(x.fitting()), fit);
        is("what fitted fits", x.fitting() & fitting, fitting);
        is("costs", x.told(8), costs);
        is("can be taken back", x.told(7), Math.min(16, done > 0 ? back + 1 : back));
        is("nothing more", x.tidy(), 0);
        is("nothing more can be taken back", x.told(7), Math.min(16, done > 0 ? back + 1 : back));
        if (done > 0) {
            x.undo();
            skeletonIs(x, before);
            is("costs", x.told(8), costs);
        }
    }

    private static void twins() {
        tidies(laid(PLAIN + NESTED, NESTED + PLAIN), "{<a>{<b>}}{<a>{<b>}}", 1, "{<a>{<b>}}");
        tidies(laid(PLAIN + NESTED + PLAIN, NESTED + PLAIN + NESTED), "{<a>{<b>}}{<a>{<b>}}{<a>{<b>}}", 2,
            "{<a>{<b>}}");
        // Not alike, or not right behind one another.
        tidies(laid("<a><a><b><b>"), "{<a>}{<b>}", 0, "{<a>}{<b>}");
        tidies(laid("<a><a>x<a><a>"), "{<a>} x {<a>}", 0, "{<a>} x {<a>}");
        // Words in them become fields.
        tidies(laid("<a>x<b><a>x<b><a>y<b><b><a>y<b><b>", "<a>x<b><b><a>x<b><b><a>y<b><a>y<b>"),
            "{<a> x {<b>}}{<a> y {<b>}}", 1, "{<a>?{<b>}}");
    }

    private static void rightAhead() {
        tidies(laid("<a><b><b><a><b><a><b>", "<a><b>" + NESTED), "<a>{<b>}{<a>{<b>}}", 1, "{<a>{<b>}}");
        tidies(laid("<x><a><b><b><a><b><a><b>", "<x><a><b>" + NESTED), "<x><a>{<b>}{<a>{<b>}}", 1, "<x>{<a>{<b>}}");
        // Only so many as are ahead in the row.
        tidies(laid("<b><b>" + "<a><b><a><b>", "<b>" + NESTED), "{<b>}{<a>{<b>}}", 0, "{<b>}{<a>{<b>}}");
        tidies(laid("<a>x<b><b><a>y<b><a>y<b>", "<a>x<b><a>y<b><b><a>y<b><b>"), "<a> x {<b>}{<a> y {<b>}}", 1,
            "{<a>?{<b>}}");
    }

    private static void rightBehind() {
        tidies(laid(PLAIN + "<a><b><b>", NESTED + "<a><b>"), "{<a>{<b>}}<a>{<b>}", 1, "{<a>{<b>}}");
        tidies(laid(PLAIN + "<a><b><b><x>", NESTED + "<a><b><x>"), "{<a>{<b>}}<a>{<b>}<x>", 1, "{<a>{<b>}}<x>");
        // Not a part of them, at the end of the row.
        tidies(laid("<a><b><a><b><a>"), "{<a><b>}<a>", 0, "{<a><b>}<a>");
        tidies(laid("<a><b><c><a><b><c><a><b><d>"), "{<a><b><c>}<a><b><d>", 0, "{<a><b><c>}<a><b><d>");
    }

    private static void foldedOnce() {
        tidies(laid("<a><b><a><b><b>", "<a><b><b><a><b>"), "<a>{<b>}<a>{<b>}", 1, "{<a>{<b>}}");
        // Neither words alone nor options alone are folded.
        tidies(laid("w<b>", "<b>", "w w<b>"), "[ w ][ w ]<b>", 0, "[ w ][ w ]<b>");
        tidies(laid("w w w w"), " w  w  w  w ", 0, " w  w  w  w ");
        tidies(laid("x<a>", "<a>", "x y<a>", "x y y<a>", "x y y y<a>"), "[ x ][ y ][ y ][ y ]<a>", 0,
            "[ x ][ y ][ y ][ y ]<a>");
        // A field and options beside it: no tag, no repeat right among them.
        tidies(laid("x y<b>", "x<a>y<b>", "x y<a><b>"), " x [<a>] y [<a>]<b>", 0, " x [<a>] y [<a>]<b>");
    }

    private static void firstOneOfThem() {
        // Twins on the right are joined ahead of what is folded on the left; each is counted once.
        String first = "<u><b><u><b><b>" + "<z>" + PLAIN + NESTED;
        String second = "<u><b><b><u><b>" + "<z>" + NESTED + PLAIN;
        tidies(laid(first, second), "<u>{<b>}<u>{<b>}<z>{<a>{<b>}}{<a>{<b>}}", 2, "{<u>{<b>}}<z>{<a>{<b>}}");
        // A repeat with one of its own ahead and one behind: two times.
        tidies(laid("<a><b><b>" + PLAIN + "<a><b><b>", "<a><b>" + NESTED + "<a><b>"),
            "<a>{<b>}{<a>{<b>}}<a>{<b>}", 2, "{<a>{<b>}}");
    }

    private static void rowsInside() {
        tidies(laid("<a><b><a><b><b>", "<a><b><b><a><b>", "<q>"), "[<a>{<b>}<a>{<b>}][<q>]", 1, "[{<a>{<b>}}][<q>]");
        tidies(laid(many("<u>" + PLAIN + NESTED + "<v>", 2), many("<u>" + NESTED + PLAIN + "<v>", 2)),
            "{<u>{<a>{<b>}}{<a>{<b>}}<v>}", 1, "{<u>{<a>{<b>}}<v>}");
        // Inside first, each row: not what stands behind the row that is tidied, though it could be.
        String plain = "<u><a><b><a><b><b>";
        String nested = "<u><a><b><b><a><b>";
        tidies(laid(plain + plain + nested + nested, nested + nested + plain + plain),
            "{<u><a>{<b>}<a>{<b>}}{<u><a>{<b>}<a>{<b>}}", 3, "{<u>{<a>{<b>}}}");
        tidies(laid("<q><q>" + plain + plain + nested + nested, "<q><q>" + nested + nested + plain + plain),
            "{<q>}{<u><a>{<b>}<a>{<b>}}{<u><a>{<b>}<a>{<b>}}", 3, "{<q>}{<u>{<a>{<b>}}}");
        // Inside first: only then are the rows round them alike.
        tidies(laid("<u>" + PLAIN + NESTED + "<v><u>" + NESTED + "<v>", "<u>" + NESTED + PLAIN + "<v><u>" + NESTED + "<v>"),
            "<u>{<a>{<b>}}{<a>{<b>}}<v><u>{<a>{<b>}}<v>", 2, "{<u>{<a>{<b>}}<v>}");
    }

    private static void nothingToTidy() {
        PageSkeleton x = new PageSkeleton();
        is("none", x.tidy(), 0);
        is("nothing to take back", x.told(7), 0);
        is("nothing to take back", x.undo(), -1);
        tidies(x, "", 0, "");
        tidies(laid("<a>"), "<a>", 0, "<a>");
        tidies(laid("<a>", "<b>"), "[<a>][<b>]", 0, "[<a>][<b>]");
        // What a tidy() did that did nothing is not what undo() takes back.
        PageSkeleton y = laid("<a>", "<b>");
        y.tidy();
        is("the latest lay()", y.undo(), 1);
        skeletonIs(y, "<a>");
        PageSkeleton z = laid(PLAIN + NESTED, NESTED + PLAIN);
        z.tidy();
        z.tidy();
        z.undo();
        skeletonIs(z, "{<a>{<b>}}{<a>{<b>}}");
    }

    private static void stillFits() {
        PageSkeleton x = laid(PLAIN + NESTED, NESTED + PLAIN);
        tell(x, "<a><b>");
        tell(x, "<a><b><a><b>");
        tell(x, "<b>");
        is("ahead", x.fitting(), 11);
        is("would fit", x.tidied(3), 4);
        x.tidy();
        is("behind", x.fitting(), 15);
        is("no page would", new PageSkeleton().tidied(3), 0);
        is("none without a skeleton", of("<a>").tidied(3), 0);
    }
}
