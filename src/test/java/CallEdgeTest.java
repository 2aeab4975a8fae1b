/** The sentences about calls, refusals, what is taken back and orders that name a boundary: a test for each. */
public final class CallEdgeTest extends Checks {
    // Numbers that no page, node, token or what has, for whatever lists there are.
    private static final int[] FAR = {-1, Integer.MIN_VALUE, Integer.MAX_VALUE, 0x10000, -0x10000, 1 << 31 | 1};

    public static void main(String[] args) {
        sentence("no PAGES, no SKELETON", CallEdgeTest::newObject);
        sentence("no such PAGE", CallEdgeTest::noSuchPage);
        sentence("no such NODE", CallEdgeTest::noSuchNode);
        sentence("no such TOKEN", CallEdgeTest::noSuchToken);
        sentence("ahead of others", CallEdgeTest::noSuchAheadOfOthers);
        sentence("another what", CallEdgeTest::anotherWhat);
        sentence("no such TOKEN ahead of what is NONE", CallEdgeTest::refusedAheadOfNone);
        sentence("how many calls were refused", CallEdgeTest::refusalsCounted);
        sentence("NONE for others", CallEdgeTest::noSuchStatus);
        sentence("asked, nothing stays changed", CallEdgeTest::askedNothingChanges);
        sentence("asked earlier, nothing stays", CallEdgeTest::askedEarlierNothingStays);
        sentence("the latest 16 can be taken back", CallEdgeTest::latestSixteen);
        sentence("the SKELETON is as ahead of the latest lay(), tidy()", CallEdgeTest::asAhead);
        sentence("its SIZE; NONE: there is none", CallEdgeTest::undoAnswers);
        sentence("there is no SKELETON any more (nothing can be taken back): SIZE that it had", CallEdgeTest::cleared);
        sentence("COSTS of all that were laid and not taken back, together", CallEdgeTest::costsTogether);
        sentence("how many lay(), tidy() can be taken back", CallEdgeTest::canBeTakenBack);
        sentence("told of each sort", CallEdgeTest::toldOfEach);
        sentence("COST, were a PAGE laid against another one", CallEdgeTest::distances);
        sentence("of alike ones the least number; NONE: there is no other one", CallEdgeTest::nearestOnes);
        sentence("orders: there are none, or more than 4", CallEdgeTest::orderedPages);
        sentence("whatever SIZE comes of it", CallEdgeTest::ordersOfAnySize);
        sentence("how many orders end as that one does", CallEdgeTest::ordersThatEndAlike);
        sentence("the first order by which that is so (as they are sorted by PAGES)", CallEdgeTest::firstOrder);
        sentence("512 calls", CallEdgeTest::fiveHundredTwelveCalls);
        end();
    }

    /** Pages 0 to 2, laid; nodes 0 to 8, tokens 0 to 6. */
    private static PageSkeleton made() {
        PageSkeleton x = laid("<u><l>x<u><l>y<v>", "<u>z<u>z w", "<u>z<u>z");
        skeletonIs(x, "{<u>[<l>]?}[<v>][ w ]");
        return x;
    }

    private static int as(boolean answer) {
        return answer ? 1 : 0;
    }

    private static void newObject() {
        PageSkeleton x = new PageSkeleton();
        for (int what = 0; what < 10; what++) {
            is("told(" + what + ")", x.told(what), 0);
        }
        for (int what = 0; what < 4; what++) {
            is("tidied(" + what + ")", x.tidied(what), 0);
        }
        is("fault()", x.fault(), -1);
        is("tidy()", x.tidy(), 0);
        is("undo()", x.undo(), -1);
        is("clear()", x.clear(), 0);
        is("fitting()", x.fitting(), 0);
        is("shortest()", x.shortest(), 0);
        for (int what = 0; what < 3; what++) {
            is("status(" + what + ")", x.status(what), 0);
        }
        noElement(x, "lay(0)", () -> x.lay(0));
        noElement(x, "distance(0, 0)", () -> x.distance(0, 0));
        noElement(x, "nearest(0)", () -> x.nearest(0));
        noElement(x, "tokenOf(0, 0)", () -> x.tokenOf(0, 0));
        // Nothing of one object is another one's.
        PageSkeleton y = made();
        is("another one's", x.told(0), 0);
        is("another one's", y.told(0), 3);
    }

    private static void noPage(PageSkeleton x, int p) {
        String of = " of page " + p;
        noElement(x, "lay" + of, () -> x.lay(p));
        noElement(x, "pageOf" + of, () -> x.pageOf(p, 0));
        noElement(x, "token" + of, () -> x.token(p, 0));
        noElement(x, "pageNode" + of, () -> x.pageNode(p, 0, 0));
        noElement(x, "fits" + of, () -> as(x.fits(p)));
        noElement(x, "reach" + of, () -> x.reach(p));
        noElement(x, "ways" + of, () -> x.ways(p));
        noElement(x, "times" + of, () -> x.times(p, 0));
        noElement(x, "passes" + of, () -> x.passes(p, 0));
        noElement(x, "value" + of, () -> x.value(p, 0, 0));
        noElement(x, "taker" + of, () -> x.taker(p, 0));
        noElement(x, "would" + of, () -> x.would(p, 0));
        noElement(x, "distance" + of, () -> x.distance(p, 0));
        noElement(x, "distance to" + of, () -> x.distance(0, p));
        noElement(x, "nearest" + of, () -> x.nearest(p));
        noElement(x, "cuts" + of, () -> x.cuts(p));
        noElement(x, "common" + of, () -> x.common(p, 0));
        noElement(x, "common with" + of, () -> x.common(0, p));
        noElement(x, "similar" + of, () -> as(x.similar(p, 0)));
        noElement(x, "similar to" + of, () -> as(x.similar(0, p)));
        noElement(x, "step" + of, () -> x.step(p, 0, 0));
    }

    private static void noSuchPage() {
        for (int page : FAR) {
            noPage(made(), page);
            noPage(new PageSkeleton(), page);
        }
        noPage(made(), 3);
        noPage(made(), 7);
        noPage(made(), 8);
        noPage(new PageSkeleton(), 0);
        PageSkeleton full = new PageSkeleton();
        for (int page = 0; page < 8; page++) {
            tell(full, "x");
        }
        full.lay(7);
        noPage(full, 8);
    }

    private static void noNode(PageSkeleton x, int n) {
        String of = " of node " + n;
        noElement(x, "node" + of, () -> x.node(n, 0));
        noElement(x, "times" + of, () -> x.times(0, n));
        noElement(x, "passes" + of, () -> x.passes(0, n));
        noElement(x, "value" + of, () -> x.value(0, n, 0));
        noElement(x, "unlike" + of, () -> x.unlike(n));
        noElement(x, "alike" + of, () -> as(x.alike(n, 0)));
        noElement(x, "alike to" + of, () -> as(x.alike(0, n)));
        noElement(x, "users" + of, () -> x.users(n));
        noElement(x, "greatest" + of, () -> x.greatest(n));
    }

    private static void noSuchNode() {
        for (int node : FAR) {
            noNode(made(), node);
            PageSkeleton x = made();
            noElement(x, "pageNode", () -> x.pageNode(0, node, 0));
        }
        PageSkeleton x = made();
        is("the last one", x.node(8, 0), 1);
        noNode(x, 9);
        is("the last one of a page", x.pageNode(0, 4, 0), 0);
        noElement(x, "pageNode", () -> x.pageNode(0, 5, 0));
        is("fewer of another page", x.pageNode(2, 2, 0), 1);
        noElement(x, "pageNode", () -> x.pageNode(2, 3, 0));
        // Nodes that a larger skeleton had are none of a smaller one.
        x.undo();
        x.undo();
        is("the last one", x.node(4, 0), 0);
        noNode(x, 5);
        x.clear();
        noNode(x, 0);
    }

    private static void noSuchToken() {
        for (int token : FAR) {
            PageSkeleton x = made();
            noElement(x, "tokenOf " + token, () -> x.tokenOf(token, 0));
            noElement(x, "token " + token, () -> x.token(0, token));
            noElement(x, "taker " + token, () -> x.taker(0, token));
        }
        PageSkeleton x = made();
        is("the last one of a page", x.token(0, 6), 4);
        noElement(x, "token", () -> x.token(0, 7));
        noElement(x, "taker", () -> x.taker(0, 7));
        is("the last one of a shorter page", x.token(2, 3), 5);
        noElement(x, "token", () -> x.token(2, 4));
        noElement(x, "taker", () -> x.taker(2, 4));
        is("the last one of all", x.tokenOf(6, 2), 'w' - 'a');
        noElement(x, "tokenOf", () -> x.tokenOf(7, 0));
        PageSkeleton sixty = laid(many("x ", 60));
        is("the last of sixty", sixty.token(0, 59), 0);
        noElement(sixty, "token", () -> sixty.token(0, 60));
    }

    private static void noSuchAheadOfOthers() {
        for (int what : FAR) {
            PageSkeleton x = made();
            noElement(x, "pageOf", () -> x.pageOf(3, what));
            noElement(x, "tokenOf", () -> x.tokenOf(7, what));
            noElement(x, "node", () -> x.node(9, what));
            noElement(x, "pageNode, its page", () -> x.pageNode(3, 0, what));
            noElement(x, "pageNode, its node", () -> x.pageNode(0, 9, what));
            noElement(x, "would", () -> x.would(3, what));
            noElement(x, "step", () -> x.step(3, 0, what));
            noElement(x, "value", () -> x.value(3, 0, what));
            noElement(x, "value", () -> x.value(0, 9, what));
        }
    }

    private static void noWhat(PageSkeleton x, int what, int... bounds) {
        String of = " of what " + what;
        if (what < 0 || what > bounds[0]) {
            noArgument(x, "told" + of, () -> x.told(what));
        }
        if (what < 0 || what > bounds[1]) {
            noArgument(x, "tidied" + of, () -> x.tidied(what));
            noArgument(x, "orders" + of, () -> x.orders(what));
        }
        if (what < 0 || what > bounds[2]) {
            noArgument(x, "would" + of, () -> x.would(0, what));
            noArgument(x, "firm" + of, () -> x.firm(what));
            noArgument(x, "step" + of, () -> x.step(0, 0, what));
        }
        if (what < 0 || what > bounds[3]) {
            noArgument(x, "node" + of, () -> x.node(0, what));
            noArgument(x, "pageNode" + of, () -> x.pageNode(0, 0, what));
        }
        if (what < 0 || what > 4) {
            noArgument(x, "pageOf" + of, () -> x.pageOf(0, what));
        }
        if (what < 0 || what > 8) {
            noArgument(x, "tokenOf" + of, () -> x.tokenOf(0, what));
        }
        if (what < 0 || what > 60) {
            noArgument(x, "derived" + of, () -> x.derived(what));
        }
    }

    private static void anotherWhat() {
        for (int what : FAR) {
            noWhat(made(), what, 9, 3, 2, 5);
        }
        for (int what = 3; what <= 61; what++) {
            noWhat(made(), what, 9, 3, 2, 5);
        }
        // The last ones that there are.
        PageSkeleton x = made();
        is("told(9)", x.told(9), 0);
        is("tidied(3)", x.tidied(3), 3);
        is("orders(3) >= 1", x.orders(3) >= 1, true);
        is("would(0, 2)", x.would(0, 2), 9);
        is("firm(2)", x.firm(2), 0);
        is("step(0, 0, 2)", x.step(0, 0, 2), 2);
        is("node(0, 5)", x.node(0, 5), 3);
        is("pageNode(0, 0, 5)", x.pageNode(0, 0, 5), 3);
        is("pageOf(0, 4)", x.pageOf(0, 4), 1);
        is("tokenOf(0, 8)", x.tokenOf(0, 8), 3);
        is("derived(60) > 0", x.derived(60) > 0, true);
        // Even where there is nothing to be told.
        PageSkeleton none = of("<a>");
        noArgument(none, "tidied(4)", () -> none.tidied(4));
        noArgument(none, "firm(3)", () -> none.firm(3));
        noArgument(none, "derived(61)", () -> none.derived(61));
    }

    private static void refusedAheadOfNone() {
        PageSkeleton x = laid("<a>x");
        tell(x, "<b>");
        noElement(x, "taker of a page that does not fit", () -> x.taker(1, 1));
        noElement(x, "times of a page that does not fit", () -> x.times(1, 2));
        noElement(x, "passes of a page that does not fit", () -> x.passes(1, 2));
        noElement(x, "value of a page that does not fit", () -> x.value(1, 2, -1));
        is("times", x.times(1, 1), -1);
        is("passes", x.passes(1, 1), -1);
        is("value", x.value(1, 1, -1), -1);
    }

    private static void refusalsCounted() {
        PageSkeleton x = made();
        int[] due = new int[3];
        for (int i = 0; i < 5; i++) {
            noElement(x, "lay", () -> x.lay(3));
            due[0]++;
            noElement(x, "pageOf, for two reasons", () -> x.pageOf(3, 9));
            due[0]++;
            noArgument(x, "told", () -> x.told(10));
            due[1]++;
            for (int what = 0; what < 3; what++) {
                is("status(" + what + ")", x.status(what), due[what]);
            }
        }
        // What answers NONE is not refused, nor what is faulty.
        x.undo();
        x.undo();
        x.undo();
        is("nothing to take back", x.undo(), -1);
        is("a fault", tell(x, "?"), -9);
        is("no step", x.step(0, 9, 0), -1);
        is("another status", x.status(3), -1);
        tell(x, "x");
        tell(x, "x");
        noState(x, "orders", () -> x.orders(0));
        noState(x, "orders", () -> x.orders(3));
        noArgument(x, "orders", () -> x.orders(4));
        tell(x, "x");
        tell(x, "x");
        tell(x, "x");
        feed(x, "x");
        noState(x, "page", () -> x.page(1));
        noArgument(x, "page", () -> x.page(21));
        is("elements", x.status(0), 10);
        is("arguments", x.status(1), 7);
        is("states", x.status(2), 3);
        x.clear();
        is("they stay", x.status(0), 10);
    }

    private static void noSuchStatus() {
        PageSkeleton x = made();
        noArgument(x, "told(-1)", () -> x.told(-1));
        for (int what : FAR) {
            is("status(" + what + ")", x.status(what), -1);
        }
        is("status(3)", x.status(3), -1);
        is("status(2)", x.status(2), 0);
        is("that is no refusal", x.status(1), 1);
    }

    private static String everythingAsked(PageSkeleton x) {
        StringBuilder all = new StringBuilder();
        int nodes = x.told(2);
        for (int page = 0; page < x.told(0); page++) {
            all.append(x.fits(page)).append(x.reach(page)).append(' ').append(x.ways(page)).append(' ')
                .append(x.cuts(page)).append(' ').append(x.nearest(page));
            for (int what = 0; what < 3; what++) {
                all.append(' ').append(x.would(page, what)).append(' ').append(x.step(page, what, what));
            }
            for (int other = 0; other < x.told(0); other++) {
                all.append(' ').append(x.distance(page, other)).append(' ').append(x.common(page, other))
                    .append(x.similar(page, other));
            }
            for (int node = 0; node < nodes; node++) {
                all.append(' ').append(x.times(page, node)).append(' ').append(x.passes(page, node))
                    .append(' ').append(x.value(page, node, page));
            }
            all.append(' ').append(x.taker(page, 0)).append(' ').append(x.token(page, 0)).append('\n');
        }
        for (int node = 0; node < nodes; node++) {
            all.append(' ').append(x.unlike(node)).append(' ').append(x.users(node)).append(' ')
                .append(x.greatest(node)).append(x.alike(node, nodes - 1 - node));
        }
        for (int what = 0; what < 4; what++) {
            all.append(' ').append(x.tidied(what)).append(' ').append(x.orders(what)).append(' ')
                .append(x.firm(what % 3)).append(' ').append(x.derived(what));
        }
        return all.append(' ').append(x.shortest()).append(' ').append(x.fitting()).append('\n').toString();
    }

    private static void askedNothingChanges() {
        String plain = "<a><b><a><b>";
        String nested = "<a><b><b><a><b><b>";
        PageSkeleton x = of(plain + nested, nested + plain, "<a>x<q>", "<a>y");
        PageSkeleton y = of(plain + nested, nested + plain, "<a>x<q>", "<a>y");
        int[] laid = {0, 1, 2, 3, 0};
        for (int page : laid) {
            String told = allTold(x);
            String asked = everythingAsked(x);
            same("told, behind what is asked", allTold(x), told);
            same("asked once more", everythingAsked(x), asked);
            is("laid as if nothing had been asked", x.lay(page), y.lay(page));
            same("told of both", allTold(x), allTold(y));
        }
        everythingAsked(x);
        is("tidied as if nothing had been asked", x.tidy(), y.tidy());
        same("told of both", allTold(x), allTold(y));
        everythingAsked(x);
        is("taken back as if nothing had been asked", x.undo(), y.undo());
        same("told of both", allTold(x), allTold(y));
        same("asked of both", everythingAsked(x), everythingAsked(y));
    }

    private static void change(PageSkeleton x, char by) {
        switch (by) {
            case 'T' -> x.tidy();
            case 'U' -> x.undo();
            case 'C' -> x.clear();
            default -> x.lay(by - '0');
        }
    }

    private static PageSkeleton changed(String run, int asked) {
        String plain = "<a><b><a><b>";
        String nested = "<a><b><b><a><b><b>";
        PageSkeleton x = of(plain + nested, nested + plain, "<a>x<q>", "<a>y");
        for (int i = 0; i < run.length(); i++) {
            if (i == asked) {
                everythingAsked(x);
            }
            change(x, run.charAt(i));
        }
        return x;
    }

    /** Asked once ahead of one of the changes, or never: behind all of them it is the same. */
    private static void askedEarlierNothingStays() {
        String[] runs = {"01TU", "01T2U3", "0C1TC", "10TUU2", "2U3C01TUUU", "0UUC1", "01UTU", "3210TC", "01T3TUUU"};
        for (String run : runs) {
            for (int length = 1; length <= run.length(); length++) {
                String part = run.substring(0, length);
                String due = everythingAsked(changed(part, -1));
                for (int asked = 0; asked < length; asked++) {
                    same("behind " + part + ", asked at " + asked, everythingAsked(changed(part, asked)), due);
                }
            }
        }
    }

    private static void latestSixteen() {
        for (int more = 15; more <= 18; more++) {
            PageSkeleton x = of("<a>", "<b>", "<c>");
            x.lay(0);
            x.lay(1);
            // These change nothing but what can be taken back.
            for (int i = 2; i < more; i++) {
                x.lay(i % 2);
            }
            x.lay(2);
            int can = Math.min(16, more + 1);
            is("of " + (more + 1), x.told(7), can);
            for (int i = 0; i < can; i++) {
                int size = i < more - 1 ? 2 : i == more - 1 ? 1 : 0;
                is("taken back", x.undo(), size);
                is("so many left", x.told(7), can - i - 1);
            }
            is("none", x.undo(), -1);
            is("none", x.told(7), 0);
            is("it stays as it is", x.told(3), more + 1 <= 16 ? 0 : more + 1 == 17 ? 1 : 2);
        }
    }

    private static void asAhead() {
        String plain = "<a><b><a><b>";
        String nested = "<a><b><b><a><b><b>";
        PageSkeleton x = of(plain + nested, nested + plain, "<q>", tags('r', 60), tags('s', 60), tags('t', 60));
        String[] stages = new String[6];
        stages[0] = text(x);
        x.lay(0);
        stages[1] = text(x);
        x.lay(1);
        stages[2] = text(x);
        is("tidied", x.tidy(), 1);
        stages[3] = text(x);
        x.lay(3);
        stages[4] = text(x);
        x.lay(4);
        stages[5] = text(x);
        // What is refused, what does nothing, is nothing that could be taken back.
        noState(x, "lay(5)", () -> x.lay(5));
        noElement(x, "lay(6)", () -> x.lay(6));
        is("nothing to tidy", x.tidy(), 0);
        skeletonIs(x, stages[5]);
        for (int i = 4; i >= 0; i--) {
            x.undo();
            skeletonIs(x, stages[i]);
        }
        // Taken back, laid again, taken back.
        x.lay(2);
        x.undo();
        x.lay(0);
        skeletonIs(x, stages[1]);
        x.lay(2);
        x.undo();
        skeletonIs(x, stages[1]);
    }

    private static void undoAnswers() {
        PageSkeleton x = of("<a>x", "<a>y<b>");
        is("none", x.undo(), -1);
        x.lay(0);
        x.lay(1);
        is("its size", x.undo(), 2);
        is("to no skeleton", x.undo(), 0);
        is("nodes", x.told(2), 0);
        is("none", x.undo(), -1);
        is("none again", x.undo(), -1);
        is("nothing is refused", x.status(0) + x.status(1) + x.status(2), 0);
        x.lay(1);
        is("as often as it is laid", x.undo(), 0);
    }

    private static void cleared() {
        PageSkeleton x = laid("<a>x", "<a>y<b>");
        tell(x, "?");
        feed(x, "<");
        int tokens = x.told(1);
        is("its size", x.clear(), 3);
        for (int what = 2; what <= 7; what++) {
            is("told(" + what + ")", x.told(what), 0);
        }
        is("nothing can be taken back", x.undo(), -1);
        is("pages stay", x.told(0), 2);
        is("tokens stay", x.told(1), tokens);
        is("the tape stays", x.told(9), 20);
        is("the fault stays", x.fault(), 0);
        is("without one", x.clear(), 0);
        is("nothing can be taken back", x.undo(), -1);
        is("the first again", x.lay(1), 0);
        is("one can be taken back", x.told(7), 1);
        is("back to none", x.undo(), 0);
        // Not to what was ahead of clear().
        is("no more", x.undo(), -1);
        PageSkeleton full = of("<a>");
        for (int i = 0; i < 20; i++) {
            full.lay(0);
        }
        is("of many", full.clear(), 1);
        is("none of them", full.told(7), 0);
        is("none of them", full.undo(), -1);
    }

    private static void costsTogether() {
        PageSkeleton x = of("<a>x", "<a>y<b>", "<q><r>", tags('r', 60), tags('s', 60), tags('t', 60));
        int[] costs = {0, 2, 4, 60, 60};
        int[] due = {0, 2, 6, 66, 126};
        for (int page = 0; page < 5; page++) {
            is("would cost", x.would(page, 0), costs[page]);
            is("costs", x.lay(page), costs[page]);
            is("together", x.told(8), due[page]);
        }
        noState(x, "too large", () -> x.lay(5));
        is("what is refused is not laid", x.told(8), 126);
        for (int page = 3; page >= 0; page--) {
            x.undo();
            is("taken back", x.told(8), due[page]);
        }
        x.undo();
        is("all taken back", x.told(8), 0);
        // What is cleared is not taken back: it was laid, and it cost that.
        x.lay(0);
        x.lay(1);
        x.clear();
        is("cleared", x.told(8), 2);
        x.lay(0);
        x.lay(2);
        is("laid behind that", x.told(8), 6);
        x.undo();
        x.undo();
        x.undo();
        is("taken back as far as can be", x.told(8), 2);
        // A tidy() costs nothing; what more than 16 ago was laid is not taken back.
        PageSkeleton y = laid("<a>", "<b>");
        for (int i = 0; i < 20; i++) {
            y.lay(i % 2);
        }
        for (int i = 0; i < 20; i++) {
            y.undo();
        }
        is("those that could be", y.told(8), 2);
    }

    private static void canBeTakenBack() {
        String plain = "<a><b><a><b>";
        String nested = "<a><b><b><a><b><b>";
        PageSkeleton x = of(plain + nested, nested + plain);
        int[] due = {1, 2, 3, 3, 2, 1, 0, 0};
        x.lay(0);
        is("one", x.told(7), due[0]);
        x.lay(1);
        is("two", x.told(7), due[1]);
        x.tidy();
        is("a tidy(), too", x.told(7), due[2]);
        x.tidy();
        is("not if it does nothing", x.told(7), due[3]);
        for (int i = 4; i < due.length; i++) {
            x.undo();
            is("taken back", x.told(7), due[i]);
        }
        for (int i = 0; i < 17; i++) {
            is("so far", x.told(7), Math.min(i, 16));
            x.lay(0);
        }
        is("16 at most", x.told(7), 16);
    }

    private static void toldOfEach() {
        PageSkeleton x = laid("<a>x<b><a>x<b>", "<a>y<b><c>", "<b>", "<d><d>z");
        skeletonIs(x, text(x));
        String text = text(x);
        is("fields", x.told(4), text.length() - text.replace("?", "").length());
        is("options", x.told(5), text.length() - text.replace("[", "").length());
        is("repeats", x.told(6), text.length() - text.replace("{", "").length());
        is("nodes", x.told(2), x.told(3) + x.told(5) + x.told(6));
        is("pages", x.told(0), 4);
        is("unlike tokens", x.told(1), 7);
        // What has been, but is no more.
        String[] texts = {"<a>x<a>x", "x", "<b>"};
        for (String first : texts) {
            PageSkeleton z = laid(first, "y", "<c>");
            z.clear();
            for (int what = 2; what <= 7; what++) {
                is("cleared, told(" + what + ")", z.told(what), 0);
            }
            z.lay(2);
            int[] due = {1, 1, 0, 0, 0, 1};
            for (int what = 2; what <= 7; what++) {
                is("of one tag, told(" + what + ")", z.told(what), due[what - 2]);
            }
        }
        PageSkeleton y = of("x y");
        is("no field", y.told(4), 0);
        y.lay(0);
        is("words are no fields", y.told(4), 0);
        is("nodes", y.told(2), 2);
    }

    private static void distances() {
        PageSkeleton x = of("<a>x<b>", "<a>y<c><c>", "<a>x<b><a>x<b>", "y", "<b>x<a>", tags('q', 60), tags('r', 60),
            "x z");
        for (int page = 0; page < 8; page++) {
            is("to itself", x.distance(page, page), 0);
        }
        is("a word, a tag, a repeat", x.distance(0, 1), 3);
        is("a repeat of it", x.distance(2, 0), 0);
        is("one of a repeat", x.distance(0, 2), 0);
        is("all of both", x.distance(5, 6), 120);
        is("all of both", x.distance(6, 5), 120);
        is("two words", x.distance(3, 7), 2);
        is("the other way", x.distance(7, 3), 2);
        is("one in common", x.distance(0, 4), 4);
        is("the skeleton does not matter", x.lay(5) + x.distance(0, 1), 3);
    }

    private static void nearestOnes() {
        PageSkeleton x = of("<a>x<b>");
        is("no other", x.nearest(0), -1);
        tell(x, tags('q', 60));
        is("the only other, however far", x.nearest(0), 1);
        is("the only other, however far", x.nearest(1), 0);
        tell(x, "<a>y<b>");
        tell(x, "<a>z<b>");
        is("of alike ones the least number", x.nearest(0), 2);
        is("not itself", x.nearest(2), 0);
        is("of alike ones the least number", x.nearest(3), 0);
        tell(x, "<a>z<b>");
        is("the same once more", x.nearest(3), 4);
        is("the same once more", x.nearest(4), 3);
        is("an alike one behind changes nothing", x.nearest(0), 2);
        tell(x, "<a>z<b>");
        is("of the same ones the least number", x.nearest(5), 3);
        is("of the same ones the least number", x.nearest(3), 4);
    }

    private static void ordersAre(PageSkeleton x, int... due) {
        for (int what = 0; what < 4; what++) {
            is("orders(" + what + ") of " + x.told(0), x.orders(what), due[what]);
        }
    }

    private static void orderedPages() {
        PageSkeleton x = new PageSkeleton();
        for (int what = 0; what < 4; what++) {
            int asked = what;
            noState(x, "none", () -> x.orders(asked));
        }
        noArgument(x, "none, wrongly asked", () -> x.orders(4));
        noArgument(x, "none, wrongly asked", () -> x.orders(-1));
        tell(x, "<a>");
        ordersAre(x, 1, 0, 0, 1);
        tell(x, "<b>");
        ordersAre(x, 2, 2, 0, 1);
        tell(x, "?");
        ordersAre(x, 2, 2, 0, 1);
        tell(x, "<c>");
        ordersAre(x, 6, 3, 0, 1);
        tell(x, "<d>");
        ordersAre(x, 24, 4, 0, 1);
        x.lay(3);
        ordersAre(x, 24, 4, 0, 1);
        tell(x, "<e>");
        for (int what = 0; what < 4; what++) {
            int asked = what;
            noState(x, "more than 4", () -> x.orders(asked));
        }
        noArgument(x, "more than 4, wrongly asked", () -> x.orders(4));
        // Asked for the first time of four, of eight.
        ordersAre(of("<a>", "<b>", "<c>", "<d>"), 24, 4, 0, 1);
        PageSkeleton eight = of("a", "b", "c", "d", "e", "f", "g", "h");
        noState(eight, "eight", () -> eight.orders(0));
    }

    private static void ordersOfAnySize() {
        PageSkeleton x = of(tags('a', 60), tags('b', 60), tags('c', 60), tags('d', 20));
        ordersAre(x, 24, 200, 0, 1);
        x.lay(0);
        x.lay(1);
        noState(x, "180", () -> x.lay(2));
        ordersAre(x, 24, 200, 0, 1);
    }

    private static void ordersThatEndAlike() {
        ordersAre(of("<a>x", "<a>x", "<a>x", "<a>x"), 1, 0, 0, 24);
        ordersAre(of("x", "y", "z"), 1, 1, 0, 6);
        // [<a>][<b>], but [<b>][<a>] if <b> is laid ahead of both.
        ordersAre(of("<a>", "<a>", "<b>"), 2, 2, 0, 4);
        ordersAre(of("<b>", "<a>", "<a>"), 2, 2, 0, 2);
        ordersAre(of("<a><a>", "<a>"), 1, 0, 0, 2);
        // Two of the ends are unlike at their very beginning alone: {<b>}[<a>].. and [<b>][<a>]..
        ordersAre(of("<b>", "<b>y<a>y<b>x<b>", "<b><a>y<b><b>", "<b><b><a><a>"), 14, 6, 9, 1);
    }

    private static void firstOrder() {
        // All pages: 0 1 2, 0 2 1, 1 0 2, 1 2 0, 2 0 1, 2 1 0; found by laying them one by one.
        PageSkeleton x = of("<a>x</a>", "<b>x", "<a>y</a><a>z</a><b>x");
        int[][] orders = {{0, 1, 2}, {0, 2, 1}, {1, 0, 2}, {1, 2, 0}, {2, 0, 1}, {2, 1, 0}};
        int least = Integer.MAX_VALUE;
        int first = -1;
        String[] ends = new String[6];
        for (int i = 0; i < 6; i++) {
            x.clear();
            int costs = 0;
            for (int page : orders[i]) {
                costs += x.lay(page);
            }
            ends[i] = text(x);
            first = costs < least ? i : first;
            least = Math.min(least, costs);
        }
        int alike = 0;
        int unlike = 0;
        for (int i = 0; i < 6; i++) {
            alike += ends[i].equals(ends[first]) ? 1 : 0;
            unlike += java.util.Arrays.asList(ends).indexOf(ends[i]) == i ? 1 : 0;
        }
        ordersAre(x, unlike, least, first, alike);
        is("not the very first", first > 0, true);
    }

    private static void fiveHundredTwelveCalls() {
        PageSkeleton x = of("<a>x<a>y", "<b>", "<a>z");
        for (int call = 6; call < 512; call += 2) {
            if (call % 6 == 0) {
                x.lay(call / 6 % 3);
            } else if (call % 6 == 2) {
                x.tidy();
            } else {
                x.undo();
            }
            is("what is asked is as it is", x.told(3) > 0, x.derived(x.shortest()) > 0 && x.told(2) > 0);
        }
        is("none was refused", x.status(0) + x.status(1) + x.status(2), 0);
    }
}
