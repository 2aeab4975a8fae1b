/** The sentences about pages gone through by the skeleton that name a boundary: a test for each. */
public final class WalkEdgeTest extends Checks {
    public static void main(String[] args) {
        sentence("each TAG, each WORD takes just that TOKEN, a FIELD any WORD", WalkEdgeTest::takesJustThat);
        sentence("an OPTION is there or not", WalkEdgeTest::optionThereOrNot);
        sentence("a REPEAT once or more often", WalkEdgeTest::repeatOnceAtLeast);
        sentence("all TOKENS have to be taken in the end", WalkEdgeTest::allTokensTaken);
        sentence("an OPTION is there ahead of not", WalkEdgeTest::thereAheadOfNot);
        sentence("one PASS more ahead of none", WalkEdgeTest::onePassMore);
        sentence("how many TOKENS can be taken from its beginning on, at most", WalkEdgeTest::reached);
        sentence("1,000,000,000 ways at most", WalkEdgeTest::mostWays);
        sentence("how often in the WALK (a REPEAT: in all, not each PASS); NONE: it does not FIT", WalkEdgeTest::howOften);
        sentence("PASSES in all; NONE: it does not FIT, or the NODE is none", WalkEdgeTest::passesInAll);
        sentence("the k-th time (from 0 on); NONE: ... there are not so many", WalkEdgeTest::kthTime);
        sentence("the NODE that takes a TOKEN; NONE: it does not FIT", WalkEdgeTest::takersTold);
        sentence("unlike WORDS in the WALKS of all PAGES that FIT; NONE: the NODE is none", WalkEdgeTest::unlikeWords);
        sentence("the shortest PAGE", WalkEdgeTest::shortestPage);
        sentence("in no OPTION, in no REPEAT, in neither", WalkEdgeTest::firmOnes);
        sentence("cuts: none left; NONE: it never does", WalkEdgeTest::cutAway);
        sentence("just so many TOKENS (0 to 60)", WalkEdgeTest::zeroToSixty);
        sentence("1,000,000,000 at most, taking just so many TOKENS", WalkEdgeTest::mostDerived);
        sentence("the longest row that two PAGES have in common", WalkEdgeTest::inCommon);
        sentence("PAGES (bits) that FIT and in whose WALKS a NODE is there", WalkEdgeTest::usersBits);
        sentence("in the WALK of a PAGE that FITS, at most; NONE: none FITS", WalkEdgeTest::atMost);
        sentence("PAGES (bits) that FIT", WalkEdgeTest::fittingBits);
        sentence("no SKELETON: none FITS", WalkEdgeTest::noSkeleton);
        sentence("the SKELETON is another one: so are the WALKS", WalkEdgeTest::walksFollow);
        end();
    }

    private static void fit(PageSkeleton x, String due) {
        for (int page = 0; page < due.length(); page++) {
            boolean fits = due.charAt(page) == '+';
            is("fits(" + page + ")", x.fits(page), fits);
            is("ways(" + page + ") > 0", x.ways(page) > 0, fits);
            is("bit " + page, (x.fitting() >> page & 1) == 1, fits);
            is("cuts(" + page + ") == 0", x.cuts(page) == 0, fits);
            is("taker(" + page + ", 0)", x.taker(page, 0) >= 0, fits);
        }
    }

    private static void takesJustThat() {
        PageSkeleton x = of("<a>x", "<a>y", "<b>x", "</a>x", "a x", "<a><x>");
        x.lay(0);
        fit(x, "+-----");
        x.lay(1);
        skeletonIs(x, "<a>?");
        fit(x, "++----");
        tell(x, "<a>q");
        tell(x, "<a></q>");
        fit(x, "++----+-");
    }

    private static void optionThereOrNot() {
        PageSkeleton x = of("<a>x<b>", "<b>", "<a><b>", "x<b>", "<a>x<a>x<b>", "<a>x");
        x.lay(0);
        fit(x, "+-----");
        x.lay(1);
        skeletonIs(x, "[<a> x ]<b>");
        fit(x, "++----");
    }

    private static void repeatOnceAtLeast() {
        PageSkeleton x = of("<a><a><b>", "<b>", "<a><b>", many("<a>", 59) + "<b>", many("<a>", 60));
        x.lay(0);
        skeletonIs(x, "{<a>}<b>");
        fit(x, "+-++-");
        is("passes", x.passes(3, 0), 59);
        is("one way alone", x.ways(3), 1);
        // A pass that begins with an option.
        PageSkeleton z = laid("<a><b><a><b>", "<b><b>");
        skeletonIs(z, "{[<a>]<b>}");
        tell(z, "<b><a><b>");
        tell(z, "<a><b><b>");
        tell(z, "<b><b><a><b><a><b><b>");
        tell(z, "<b><a><a><b>");
        tell(z, "<b><a>");
        fit(z, "+++++--");
        int[] passes = {2, 2, 2, 2, 5, -1, -1};
        for (int page = 0; page < passes.length; page++) {
            is("passes of " + page, z.passes(page, 0), passes[page]);
            is("one way alone", z.ways(page), passes[page] > 0 ? 1 : 0);
        }
        PageSkeleton y = laid("<a>x<a>y", "<a>z");
        tell(y, many("<a>x", 30));
        tell(y, many("<a>x", 29) + "<a>");
        fit(y, "+++-");
        is("passes", y.passes(2, 0), 30);
    }

    private static void allTokensTaken() {
        PageSkeleton x = of("<a>x<b>", "<a>x<b><b>", "<a>x<b>x", "<a>x", "<a>", "x<b>", "<b>", "<a><a>x<b>");
        x.lay(0);
        fit(x, "+-------");
        is("one more", x.reach(1), 3);
        is("one less", x.reach(3), 2);
    }

    private static void thereAheadOfNot() {
        PageSkeleton x = laid("<a>x<b>", "x<b>", "<a><a>x<b>", "<a>x<b>");
        skeletonIs(x, "[<a>][{<a>}] x <b>");
        is("either option", x.ways(0), 2);
        is("the first of them", x.taker(0, 0), 1);
        is("the other is not there", x.times(0, 2), 0);
        is("it has no pass", x.passes(0, 3), 0);
        is("both, or the second one alone", x.ways(2), 2);
        is("the first of them", x.taker(2, 0), 1);
        is("then the other", x.taker(2, 1), 4);
        is("one pass alone is left", x.passes(2, 3), 1);
        is("neither", x.ways(1), 1);
        is("neither", x.taker(1, 0), 5);
    }

    private static void onePassMore() {
        PageSkeleton x = laid("<a><a>x<b>", "x<b>", "<a>x<b>");
        skeletonIs(x, "[{<a>}][<a>] x <b>");
        is("two passes, or one and the option", x.ways(0), 2);
        is("two passes", x.passes(0, 1), 2);
        is("by the repeat", x.taker(0, 1), 2);
        is("not the option", x.times(0, 3), 0);
        is("of one", x.ways(2), 2);
        is("the repeat", x.taker(2, 0), 2);
        // Inner passes first, those outside only then.
        PageSkeleton y = laid(many("<a><b>" + many("<p><q><r><s>", 2), 4));
        skeletonIs(y, "{{<a><b>{<p><q><r><s>}}}");
        is("ways", y.ways(0), 8);
        is("outside", y.passes(0, 0), 1);
        is("inside", y.passes(0, 1), 4);
        is("inmost", y.passes(0, 4), 8);
        is("how often the inmost", y.times(0, 4), 4);
    }

    private static void reached() {
        PageSkeleton x = laid("<a>x<b><a>y<b><c>", "<a>x<b>");
        skeletonIs(x, "{<a>?<b>}[<c>]");
        String[] more = {"<b>", "<a>", "<a>x<b><a>x", "<a>x<b><c><a>", "<a>x<b>" + many("<a>y<b>", 19)};
        int[] due = {7, 3, 0, 1, 5, 4, 60};
        for (String text : more) {
            tell(x, text);
        }
        for (int page = 0; page < due.length; page++) {
            is("reach(" + page + ")", x.reach(page), due[page]);
        }
        x.clear();
        for (int page = 0; page < due.length; page++) {
            is("reach(" + page + ") without a skeleton", x.reach(page), 0);
        }
        // Not by the WALK alone: by whatever choice goes on farthest.
        PageSkeleton y = laid("x<b>", "<b>", "x<c><b>", "w<b>");
        tell(y, "x<c><d>");
        is("through an option or past it", y.reach(4), 2);
    }

    /** Options alone, 49 of them of the word w. */
    private static PageSkeleton manyOptions() {
        StringBuilder one = new StringBuilder();
        StringBuilder two = new StringBuilder();
        for (int i = 0; i < 29; i++) {
            String tag = tags('a', 29).substring(i * 5, i * 5 + 5);
            one.append("w").append(tag);
            two.append(i < 20 ? "w w" + tag : "");
        }
        PageSkeleton x = laid(tags('a', 29), one.toString(), two.toString(), "w");
        is("options", x.told(5), 49 + 29);
        is("size", x.told(3), 49 + 29);
        is("the shortest", x.shortest(), 0);
        return x;
    }

    private static void mostWays() {
        PageSkeleton x = manyOptions();
        int[] words = {8, 9, 24, 49};
        int[] due = {450978066, 1000000000, 1000000000, 1};
        for (int i = 0; i < 4; i++) {
            tell(x, many("w ", words[i]));
            is("ways of " + words[i], x.ways(4 + i), due[i]);
        }
        is("one of 49", x.ways(3), 49);
        int[] takers = {1, 3, 7, 9, 13, 15, 19, 21};
        for (int k = 0; k < takers.length; k++) {
            is("taker(4, " + k + ")", x.taker(4, k), takers[k]);
            is("beyond the most, too", x.taker(6, k), takers[k]);
        }
    }

    private static void howOften() {
        PageSkeleton y = laid("<u><l>x<l>y<v><u><l>x<l>z<v>", "<u><l>z<l>z<v>");
        tell(y, "<v>");
        tell(y, many("<u>" + many("<l>z", 4) + "<v>", 6));
        int[][] due = {{1, 2, 2, 4, 4, 2}, {1, 1, 1, 2, 2, 1}, {-1, -1, -1, -1, -1, -1}, {1, 6, 6, 24, 24, 6}};
        skeletonIs(y, "{<u>{<l>?}<v>}");
        for (int page = 0; page < due.length; page++) {
            for (int node = 0; node < 6; node++) {
                is("times(" + page + ", " + node + ")", y.times(page, node), due[page][node]);
            }
        }
        PageSkeleton sixty = laid(many("<a>", 60));
        is("sixty times", sixty.times(0, 1), 60);
        is("in all, not each pass", sixty.times(0, 0), 1);
    }

    private static void passesInAll() {
        PageSkeleton x = laid("<u><l>x<l>y<v><u><l>x<l>z<v>", "<u><l>z<l>z<v>", "<q>");
        skeletonIs(x, "[{<u>{<l>?}<v>}][<q>]");
        tell(x, "<v>");
        int[][] due = {{-1, 2, -1, 4, -1, -1, -1, -1, -1}, {-1, 1, -1, 2, -1, -1, -1, -1, -1},
            {-1, 0, -1, 0, -1, -1, -1, -1, -1}, {-1, -1, -1, -1, -1, -1, -1, -1, -1}};
        for (int page = 0; page < due.length; page++) {
            for (int node = 0; node < 9; node++) {
                is("passes(" + page + ", " + node + ")", x.passes(page, node), due[page][node]);
            }
        }
        is("sixty", laid(many("<a>", 60)).passes(0, 0), 60);
    }

    private static void kthTime() {
        PageSkeleton x = laid(many("<u>x<u>y", 15), "<u>z");
        for (int k = 0; k < 30; k++) {
            is("value(0, 2, " + k + ")", x.value(0, 2, k), 1 + k % 2);
        }
        int[] none = {30, 31, -1, Integer.MIN_VALUE, Integer.MAX_VALUE};
        for (int k : none) {
            is("value(0, 2, " + k + ")", x.value(0, 2, k), -1);
        }
        is("another page", x.value(1, 2, 0), 3);
        is("not so many there", x.value(1, 2, 1), -1);
        tell(x, "<u>");
        is("it does not fit", x.value(2, 2, 0), -1);
        for (int node = 0; node < 2; node++) {
            is("the node is none", x.value(0, node, 0), -1);
        }
        PageSkeleton word = laid("<a>x");
        is("a word is none", word.value(0, 1, 0), -1);
        is("the first token", laid("x<a>", "y<a>").value(1, 0, 0), 2);
        is("the last token", laid("<a>x", "<a>y").value(1, 1, 0), 2);
        is("one of two fields", laid("<a>x y", "<a>z w").value(0, 2, 0), 2);
        is("one of two fields", laid("<a>x y", "<a>z w").value(1, 1, 0), 3);
    }

    private static void takersTold() {
        PageSkeleton x = laid("<u>x<u>y<v>", "<u>z");
        skeletonIs(x, "{<u>?}[<v>]");
        int[] due = {1, 2, 1, 2, 4};
        for (int k = 0; k < due.length; k++) {
            is("taker(0, " + k + ")", x.taker(0, k), due[k]);
        }
        noElement(x, "taker(0, 5)", () -> x.taker(0, 5));
        noElement(x, "taker(1, 2)", () -> x.taker(1, 2));
        tell(x, "<u>x<v><v>");
        for (int k = 0; k < 4; k++) {
            is("it does not fit", x.taker(2, k), -1);
        }
        noElement(x, "no such token, even so", () -> x.taker(2, 4));
        PageSkeleton sixty = laid(many("<a>", 60));
        is("the last of sixty", sixty.taker(0, 59), 1);
        noElement(sixty, "taker(0, 60)", () -> sixty.taker(0, 60));
    }

    private static void unlikeWords() {
        PageSkeleton x = laid("<u>x<u>y<u>x", "<u>z");
        is("three", x.unlike(2), 3);
        is("a tag is none", x.unlike(1), -1);
        is("a repeat is none", x.unlike(0), -1);
        tell(x, "<u>v<v>");
        is("none of a page that does not fit", x.unlike(2), 3);
        tell(x, "<u>v<u>v<u>x");
        is("each word once", x.unlike(2), 4);
        is("at the first token", laid("x<a>", "y<a>").unlike(0), 2);
        PageSkeleton y = laid("<a>x y", "<a>y x");
        is("each field for itself", y.unlike(1), 2);
        is("each field for itself", y.unlike(2), 2);
        PageSkeleton option = laid("<a>x", "<b>");
        is("an option is none", option.unlike(0), -1);
        is("a word is none", option.unlike(2), -1);
        // As many as there can be: sixty tokens, thirty words each in six pages.
        StringBuilder[] texts = new StringBuilder[6];
        PageSkeleton z = new PageSkeleton();
        for (int page = 0; page < 6; page++) {
            texts[page] = new StringBuilder();
            for (int i = 0; i < 30; i++) {
                texts[page].append("<a>").append((char) ('a' + page)).append((char) ('a' + i % 26))
                    .append(i < 26 ? "" : "z");
            }
            tell(z, texts[page].toString());
        }
        z.lay(0);
        is("words", z.unlike(2), 180);
        is("all but the tag", z.told(1), 181);
    }

    private static void shortestPage() {
        is("none", new PageSkeleton().shortest(), 0);
        is("sixty", laid(tags('a', 60)).shortest(), 60);
        is("a repeat once", laid(many("<a>", 60)).shortest(), 1);
        is("words and fields", laid("<a>x y", "<a>x z").shortest(), 3);
        is("no option", laid("<a>x<b>", "<b>").shortest(), 1);
        is("options alone", laid("<a>", "<b>").shortest(), 0);
        is("a repeat in an option", laid("<a><a><b>", "<b>").shortest(), 1);
        is("an option in a repeat", laid("<a><b><a><b>", "<a><a>").shortest(), 1);
        is("a repeat in a repeat", laid("<u><l>x<l>y<u><l>z<l>z").shortest(), 3);
    }

    private static void firmOnes() {
        PageSkeleton none = new PageSkeleton();
        for (int what = 0; what < 3; what++) {
            is("of none", none.firm(what), 0);
            is("sixty", laid(tags('a', 60)).firm(what), 60);
        }
        PageSkeleton x = laid("w<h>v<g><u><l>x<u><l>y<v>", "w<h>z<g><u>z<u>z");
        skeletonIs(x, " w <h>?<g>{<u>[<l>]?}[<v>]");
        int[] due = {4, 4, 3};
        for (int what = 0; what < 3; what++) {
            is("firm(" + what + ")", x.firm(what), due[what]);
        }
        PageSkeleton y = laid("<a><a><b>", "<b>");
        skeletonIs(y, "[{<a>}]<b>");
        for (int what = 0; what < 3; what++) {
            is("firm(" + what + ")", y.firm(what), 1);
        }
        PageSkeleton z = laid("<a><a>", "<b>");
        skeletonIs(z, "[{<a>}][<b>]");
        int[] last = {0, 1, 0};
        for (int what = 0; what < 3; what++) {
            is("firm(" + what + ")", z.firm(what), last[what]);
        }
    }

    private static void cutAway() {
        PageSkeleton x = laid("<a>", "<b>");
        tell(x, "<c>");
        tell(x, many("<c>x ", 30));
        tell(x, "<b><a>");
        tell(x, "<a><b>");
        tell(x, "<a><a><b>");
        int[] due = {0, 0, 1, 60, 1, 0, 1};
        for (int page = 0; page < due.length; page++) {
            is("cuts(" + page + ")", x.cuts(page), due[page]);
        }
        PageSkeleton y = of("<a>x", "<b>x", "<a>", "x<a>x<a>", "<a><q>x<q>");
        y.lay(0);
        int[] never = {0, -1, -1, 2, 2};
        for (int page = 0; page < never.length; page++) {
            is("cuts(" + page + ")", y.cuts(page), never[page]);
        }
        y.clear();
        int[] all = {2, 2, 1, 4, 4};
        for (int page = 0; page < all.length; page++) {
            is("cuts(" + page + ") without a skeleton", y.cuts(page), all[page]);
        }
        PageSkeleton z = laid("<a>x<b><a>y<b>");
        tell(z, "<a>x<b><a>x<a>x<b>");
        is("a pass half there", z.cuts(1), 2);
    }

    private static void zeroToSixty() {
        PageSkeleton one = laid("<a>");
        is("0", one.derived(0), 0);
        is("1", one.derived(1), 1);
        is("2", one.derived(2), 0);
        PageSkeleton x = laid(tags('a', 60));
        is("59", x.derived(59), 0);
        is("60", x.derived(60), 1);
        PageSkeleton y = laid("<a>x<a>y");
        for (int tokens = 0; tokens <= 60; tokens++) {
            is("by twos", y.derived(tokens), tokens > 0 && tokens % 2 == 0 ? 1 : 0);
        }
        int[] wrong = {-1, 61, Integer.MIN_VALUE, Integer.MAX_VALUE};
        for (int tokens : wrong) {
            noArgument(x, "derived(" + tokens + ")", () -> x.derived(tokens));
        }
        is("none, taking none", new PageSkeleton().derived(0), 1);
        is("none, taking one", new PageSkeleton().derived(1), 0);
    }

    private static void mostDerived() {
        PageSkeleton x = manyOptions();
        // 78 options of one token each.
        is("none", x.derived(0), 1);
        is("one", x.derived(1), 78);
        is("two", x.derived(2), 3003);
        is("six", x.derived(6), 256851595);
        is("seven", x.derived(7), 1000000000);
        is("39", x.derived(39), 1000000000);
        is("60", x.derived(60), 1000000000);
    }

    private static void inCommon() {
        PageSkeleton x = of("<a></a>a", "a</a><a>", "<b>", tags('a', 60), tags('a', 60), "<aab>x<aaa>", "b");
        is("names alone are not enough", x.common(0, 1), 1);
        is("nothing", x.common(0, 2), 0);
        is("a tag and a word", x.common(2, 6), 0);
        is("all of sixty", x.common(3, 4), 60);
        is("the same page", x.common(0, 0), 3);
        is("not one right behind the other", x.common(5, 3), 1);
        is("the other way", x.common(3, 5), 1);
        PageSkeleton y = of("x x x x", "x x", "x y x y x");
        is("as often as in both", y.common(0, 1), 2);
        is("with others in between", y.common(0, 2), 3);
        is("the other way", y.common(2, 0), 3);
    }

    private static void usersBits() {
        PageSkeleton x = new PageSkeleton();
        for (int page = 0; page < 8; page++) {
            tell(x, page % 2 == 0 ? "<a><b>" : page == 7 ? "<b>" : "<c>");
        }
        x.lay(0);
        x.lay(7);
        skeletonIs(x, "[<a>]<b>");
        int[] due = {0x55, 0x55, 0xd5};
        for (int node = 0; node < due.length; node++) {
            is("users(" + node + ")", x.users(node), due[node]);
        }
        is("those that fit", x.fitting(), 0xd5);
        // A text of no token would fit, but is no page.
        PageSkeleton none = laid("<a>", "<b>");
        skeletonIs(none, "[<a>][<b>]");
        is("pages alone", none.fitting(), 3);
        is("pages alone", none.tidied(3), 2);
        int[] pages = {1, 1, 2, 2};
        for (int node = 0; node < 4; node++) {
            is("users(" + node + ")", none.users(node), pages[node]);
            is("greatest(" + node + ")", none.greatest(node), 1);
        }
        // It fits, but by another node.
        PageSkeleton y = laid("x<b>", "<b>", "w x<b>", "z<b>");
        skeletonIs(y, "[?][ x ]<b>");
        is("the second option alone is never there", y.users(2), 4);
    }

    private static void atMost() {
        PageSkeleton x = of("<a><a>", "<a>", many("<a>", 60), "<b>");
        x.lay(0);
        is("the repeat", x.greatest(0), 1);
        is("the tag", x.greatest(1), 60);
        x.lay(3);
        skeletonIs(x, "[{<a>}][<b>]");
        int[] due = {1, 1, 60, 1, 1};
        for (int node = 0; node < due.length; node++) {
            is("greatest(" + node + ")", x.greatest(node), due[node]);
        }
        noElement(x, "greatest(5)", () -> x.greatest(5));
        PageSkeleton eight = of("<b>", "<b>", "<b>", "<b>", "<b>", "<b>", "<b>", "<a><a><a>");
        eight.lay(7);
        is("the last of eight alone", eight.greatest(1), 3);
        is("its bit", eight.users(1), 128);
        eight.lay(0);
        is("the last of eight", eight.greatest(2), 3);
        is("the others", eight.greatest(4), 1);
    }

    private static void fittingBits() {
        PageSkeleton x = new PageSkeleton();
        is("no pages", x.fitting(), 0);
        for (int page = 0; page < 8; page++) {
            tell(x, page < 7 ? "<a>" : "<b>");
        }
        is("no skeleton", x.fitting(), 0);
        x.lay(7);
        is("the last alone", x.fitting(), 128);
        x.lay(0);
        is("all eight", x.fitting(), 255);
        x.undo();
        is("the last alone", x.fitting(), 128);
        x.undo();
        is("none", x.fitting(), 0);
    }

    private static void noSkeleton() {
        PageSkeleton x = of("<a>x", "<a>");
        fit(x, "--");
        is("ways", x.ways(0), 0);
        is("reach", x.reach(0), 0);
        is("cuts", x.cuts(0), 2);
        is("taker", x.taker(0, 1), -1);
        noElement(x, "times(0, 0)", () -> x.times(0, 0));
        noElement(x, "passes(0, 0)", () -> x.passes(0, 0));
        noElement(x, "value(0, 0, 0)", () -> x.value(0, 0, 0));
        noElement(x, "unlike(0)", () -> x.unlike(0));
        noElement(x, "users(0)", () -> x.users(0));
        noElement(x, "greatest(0)", () -> x.greatest(0));
        noElement(x, "alike(0, 0)", () -> x.alike(0, 0) ? 1 : 0);
        noElement(x, "node(0, 0)", () -> x.node(0, 0));
    }

    private static void walksFollow() {
        PageSkeleton x = of("<a>x", "<a>y", "<a>x<a>y");
        x.lay(0);
        fit(x, "+--");
        x.lay(1);
        fit(x, "++-");
        is("a field now", x.value(0, 1, 0), 1);
        x.lay(2);
        fit(x, "+++");
        is("in a repeat now", x.value(0, 2, 0), 1);
        x.undo();
        fit(x, "++-");
        is("a field again", x.value(0, 1, 0), 1);
        x.clear();
        fit(x, "---");
        x.lay(2);
        fit(x, "+++");
        x.undo();
        fit(x, "---");
    }
}
