/** The sentences about the tape, texts, tokens and faults that name a boundary: a test for each. */
public final class TextEdgeTest extends Checks {
    public static void main(String[] args) {
        sentence("the TAPE has up to 400 bytes", TextEdgeTest::tapeIsFull);
        sentence("NONE, doing nothing, if there would be more than 400", TextEdgeTest::nothingBeyond400);
        sentence("of each number the highest first", TextEdgeTest::highestByteFirst);
        sentence("the first n bytes of the TAPE (empty then)", TextEdgeTest::firstBytesAlone);
        sentence("numbered from 0 on", TextEdgeTest::pagesAreNumbered);
        sentence("8 at most; IllegalStateException: there are 8 (the TAPE stays)", TextEdgeTest::eightPages);
        sentence("IllegalArgumentException: n is not 0 to the TAPE's bytes (it stays)", TextEdgeTest::bytesAsked);
        sentence("a text of 1 to 60 TOKENS", TextEdgeTest::oneToSixtyTokens);
        sentence("a TAG \"<\" or \"</\", then a NAME, then \">\"", TextEdgeTest::tagsAreWhole);
        sentence("NAME: 1 to 6 small letters", TextEdgeTest::oneToSixLetters);
        sentence("small letters", TextEdgeTest::smallLettersAlone);
        sentence("blanks (32)", TextEdgeTest::blanksAlone);
        sentence("between TOKENS, ahead, behind", TextEdgeTest::blanksAround);
        sentence("not inside", TextEdgeTest::noBlanksInside);
        sentence("two WORDS have one between at least", TextEdgeTest::blankBetweenWords);
        sentence("numbered from 0 on as they stand first in any PAGE", TextEdgeTest::tokensAreNumbered);
        sentence("TAGS that open, TAGS that close, WORDS, by NAMES", TextEdgeTest::sortsAndNames);
        sentence("200 at most", TextEdgeTest::twoHundredUnlike);
        sentence("all but the TAPE stays", TextEdgeTest::faultyTextLeavesNothing);
        sentence("1 what can't stand there (at it)", TextEdgeTest::cannotStandThere);
        sentence("the end of the text, if it ends too early", TextEdgeTest::endsTooEarly);
        sentence("a seventh letter: at it", TextEdgeTest::seventhLetter);
        sentence("2 (at its first byte) a 61st TOKEN", TextEdgeTest::sixtyFirstToken);
        sentence("2 (at its first byte) one that would be the 201st unlike one", TextEdgeTest::unlike201st);
        sentence("no TOKEN at all: 1, at the end", TextEdgeTest::noToken);
        sentence("the first from the left", TextEdgeTest::firstFromTheLeft);
        sentence("the FAULT of the latest text; NONE without", TextEdgeTest::latestFault);
        sentence("how many letters, these, NONE: there are not so many", TextEdgeTest::lettersTold);
        sentence("in how many PAGES it stands", TextEdgeTest::pagesCounted);
        sentence("bytes of the TAPE", TextEdgeTest::bytesTold);
        end();
    }

    private static void fault(String text, int sort, int place) {
        PageSkeleton x = of("<k>");
        fault(x, text, sort, place);
    }

    private static void fault(PageSkeleton x, String text, int sort, int place) {
        int pages = x.told(0);
        int tokens = x.told(1);
        is("page of '" + text + "'", tell(x, text), sort - 10);
        is("fault of '" + text + "'", x.fault(), place);
        is("pages", x.told(0), pages);
        is("tokens", x.told(1), tokens);
        is("the tape", x.told(9), 0);
    }

    private static void tapeIsFull() {
        PageSkeleton x = new PageSkeleton();
        for (int i = 1; i <= 20; i++) {
            is("feed", x.feed(0, 0, 0, 0, 0), i * 20);
        }
        is("full", x.told(9), 400);
        is("one more", x.feed(0, 0, 0, 0, 0), -1);
        // All of its bytes can be asked for, and the last one is read.
        PageSkeleton y = new PageSkeleton();
        feed(y, many(" ", 399) + "x");
        is("all bytes", y.page(400), 0);
        is("tokens", y.pageOf(0, 0), 1);
    }

    private static void nothingBeyond400() {
        PageSkeleton x = new PageSkeleton();
        feed(x, many(" ", 396) + "<ab>");
        for (int i = 0; i < 3; i++) {
            is("refused", x.feed(-1, -1, -1, -1, -1), -1);
        }
        is("bytes", x.told(9), 400);
        is("no refusal counted", x.status(0) + x.status(1) + x.status(2), 0);
        is("as it was", x.page(400), 0);
        is("its only token", x.tokenOf(x.token(0, 0), 1), 2);
        is("there is room again", x.feed(0, 0, 0, 0, 0), 20);
        // 380 bytes, and 20 more are just 400.
        PageSkeleton y = new PageSkeleton();
        feed(y, many(" ", 380));
        is("380", y.told(9), 380);
        is("400", y.feed(1, 2, 3, 4, 5), 400);
    }

    private static void highestByteFirst() {
        PageSkeleton x = new PageSkeleton();
        x.feed(0x61626364, 0x65662020, 0x3c67683e, 0x2069206a, 0x3c2f6b3e);
        is("page", x.page(20), 0);
        String[] due = {" abcdef ", "<gh>", " i ", " j ", "</k>"};
        is("tokens", x.pageOf(0, 0), due.length);
        for (int k = 0; k < due.length; k++) {
            same("token " + k, name(x, x.token(0, k)).trim(), due[k].trim());
        }
        // The highest bit of a number is no sign of the byte.
        int[] numbers = {Integer.MIN_VALUE, -1, Integer.MAX_VALUE, 0x8a202020};
        for (int number : numbers) {
            x.feed(number, 0, 0, 0, 0);
            is("a byte beyond 127", x.page(4), -9);
            is("its place", x.fault(), 0);
        }
        x.feed(0x78202020, 0x20202020, 0x20202020, 0x20202020, 0x202020ff);
        is("the last byte", x.page(20), -9);
        is("its place", x.fault(), 19);
    }

    private static void firstBytesAlone() {
        PageSkeleton x = new PageSkeleton();
        feed(x, "<a>x<b>?????????????");
        is("seven of twenty", x.page(7), 0);
        is("empty then", x.told(9), 0);
        is("nothing is left", x.page(0), -9);
        feed(x, "<a>x<b>");
        is("cut off", x.page(6), -9);
        is("at the end of the text", x.fault(), 6);
        is("empty then, too", x.told(9), 0);
        feed(x, "abcdefg");
        is("six of seven letters", x.page(6), 1);
        feed(x, "<a>");
        is("with no byte", x.page(0), -9);
        is("empty then, too", x.told(9), 0);
    }

    private static void pagesAreNumbered() {
        PageSkeleton x = new PageSkeleton();
        is("first", tell(x, "x"), 0);
        is("second", tell(x, "x"), 1);
        is("faulty", tell(x, "?"), -9);
        is("third", tell(x, "y"), 2);
        is("the third's", x.token(2, 0), 1);
    }

    private static void eightPages() {
        PageSkeleton x = new PageSkeleton();
        for (int page = 0; page < 8; page++) {
            is("page", tell(x, "<a>" + many("x", page % 6 + 1)), page);
        }
        feed(x, "<b>");
        int[] lengths = {0, 3, 20};
        for (int n : lengths) {
            noState(x, "a ninth of " + n, () -> x.page(n));
        }
        is("the tape stays", x.told(9), 20);
        noArgument(x, "more bytes than there are", () -> x.page(21));
        noArgument(x, "less than none", () -> x.page(-1));
        is("it goes on", x.feed(0, 0, 0, 0, 0), 40);
        is("the eighth", x.pageOf(7, 0), 2);
        is("all that are laid", x.lay(7), 0);
        is("bits of all", x.fitting(), 128 | 2);
        is("the latest text's fault", x.fault(), -1);
    }

    private static void bytesAsked() {
        PageSkeleton x = new PageSkeleton();
        noArgument(x, "page(1) of none", () -> x.page(1));
        is("page(0) of none", x.page(0), -9);
        feed(x, "<a>");
        int[] wrong = {-1, 21, Integer.MIN_VALUE, Integer.MAX_VALUE};
        for (int n : wrong) {
            noArgument(x, "page(" + n + ")", () -> x.page(n));
            is("it stays", x.told(9), 20);
        }
        is("its text too", x.page(3), 0);
        feed(x, many(" ", 399) + "x");
        noArgument(x, "page(401)", () -> x.page(401));
        is("page(400)", x.page(400), 1);
    }

    private static void oneToSixtyTokens() {
        String[] texts = {"<a>", "</a>", "a", "<abcdef>", " z "};
        for (String text : texts) {
            PageSkeleton x = of(text);
            is("one token", x.pageOf(0, 0), 1);
        }
        String[] sixty = {many("<a>", 60), many("x ", 60), many("x ", 59) + "x", tags('a', 60), many("</a>", 60),
            many("<a>x</a>", 20), "  " + many("<a> ", 60)};
        for (String text : sixty) {
            PageSkeleton x = of(text);
            is("sixty", x.pageOf(0, 0), 60);
            is("the last", x.token(0, 59) >= 0, true);
            is("no fault", x.fault(), -1);
        }
        fault("", 1, 0);
        fault(many("<a>", 61), 2, 180);
    }

    private static void tagsAreWhole() {
        PageSkeleton x = of("<a></a>a");
        int[] sorts = {0, 1, 2};
        for (int k = 0; k < 3; k++) {
            is("sort", x.tokenOf(x.token(0, k), 0), sorts[k]);
        }
        fault("<>", 1, 1);
        fault("</>", 1, 2);
        fault("<//a>", 1, 2);
        fault("<a/>", 1, 2);
        fault("/a>", 1, 0);
        fault("<<a>", 1, 1);
        fault("</<a>", 1, 2);
        fault("<a<b>", 1, 2);
        fault("<a>>", 1, 3);
        fault("x>", 1, 1);
        fault("x/", 1, 1);
        fault(">", 1, 0);
    }

    private static void oneToSixLetters() {
        String[] around = {"%s", "<%s>", "</%s>"};
        for (int sort = 0; sort < 3; sort++) {
            for (int letters = 1; letters <= 6; letters++) {
                PageSkeleton x = of(String.format(around[sort], "zyxwvu".substring(0, letters)));
                is("letters", x.tokenOf(0, 1), letters);
            }
            fault(String.format(around[sort], "zyxwvut"), 1, around[sort].indexOf('%') + 6);
        }
        fault("<>", 1, 1);
        fault("</>", 1, 2);
    }

    private static void smallLettersAlone() {
        for (int sign = 0; sign < 256; sign++) {
            boolean letter = sign >= 'a' && sign <= 'z';
            String name = String.valueOf((char) sign);
            if (letter) {
                PageSkeleton x = of(name, "<" + name + ">", "</" + name + ">", "k" + name);
                is("letter " + sign, x.tokenOf(0, 2), sign - 'a');
                is("behind another", x.tokenOf(3, 3), sign - 'a');
            } else {
                if (sign != '<' && sign != ' ') {
                    fault(name, 1, 0);
                    fault("k" + name, 1, 1);
                }
                if (sign != '/') {
                    fault("<" + name, 1, 1);
                }
                fault("</" + name, 1, 2);
                if (sign != '>') {
                    fault("<k" + name, 1, 2);
                    fault("</k" + name, 1, 3);
                }
            }
        }
    }

    private static void blanksAlone() {
        int[] others = {0, 9, 10, 11, 12, 13, 31, 33, 95, 127, 160, 255};
        for (int sign : others) {
            fault((char) sign + "<a>", 1, 0);
            fault("<a>" + (char) sign, 1, 3);
            fault("x" + (char) sign + "y", 1, 1);
        }
        is("blanks", of(" <a> x ").pageOf(0, 0), 2);
    }

    private static void blanksAround() {
        PageSkeleton x = of("   <a>  x   y </b>    ", "<a>x y</b>", "<a> x  y</b> ", " <a>x y  </b>");
        for (int page = 0; page < 4; page++) {
            is("tokens", x.pageOf(page, 0), 4);
            for (int k = 0; k < 4; k++) {
                is("the same", x.token(page, k), k);
            }
        }
        is("the whole tape, a token at its beginning", tell(x, "x" + many(" ", 399)), 4);
        is("the whole tape, a token in it", tell(x, many(" ", 200) + "x" + many(" ", 199)), 5);
    }

    private static void noBlanksInside() {
        fault("< a>", 1, 1);
        fault("< /a>", 1, 1);
        fault("</ a>", 1, 2);
        fault("<a >", 1, 2);
        fault("</a >", 1, 3);
        fault("<a b>", 1, 2);
        fault("x< >", 1, 2);
        is("a word with a blank inside is two", of("ab cd").pageOf(0, 0), 2);
    }

    private static void blankBetweenWords() {
        is("one blank", of("abc def").pageOf(0, 0), 2);
        is("more blanks", of("abc   def").pageOf(0, 0), 2);
        is("none: one word", of("abcdef").pageOf(0, 0), 1);
        fault("abcdefabcdef", 1, 6);
        is("six letters each", of("abcdef abcdef").pageOf(0, 0), 2);
        is("none needed round tags", of("x<a>y</a>z<b><c>w").pageOf(0, 0), 8);
    }

    private static void tokensAreNumbered() {
        PageSkeleton x = of("x<b>x<a>", "<a>y x<c>", "<c>z");
        int[][] due = {{0, 1, 0, 2}, {2, 3, 0, 4}, {4, 5}};
        for (int page = 0; page < due.length; page++) {
            for (int k = 0; k < due[page].length; k++) {
                is("token(" + page + ", " + k + ")", x.token(page, k), due[page][k]);
            }
        }
        is("all", x.told(1), 6);
        PageSkeleton y = of(tags('a', 60));
        for (int k = 0; k < 60; k++) {
            is("sixty unlike", y.token(0, k), k);
        }
    }

    private static void sortsAndNames() {
        PageSkeleton x = of("<ab></ab>ab", "ab</ab><ab>", "a<a></a>", "ba aa aaa");
        is("three sorts of one name", x.told(1), 9);
        int[] back = {2, 1, 0};
        for (int k = 0; k < 3; k++) {
            is("the same again", x.token(1, k), back[k]);
            is("another name", x.token(2, k), 3 + k);
            is("names alike but not the same", x.token(3, k), 6 + k);
        }
        // The last name that there can be, and ones near it.
        PageSkeleton y = of("zzzzzz<zzzzzz></zzzzzz>", "zzzzz zzzzzy <zzzzzy>");
        is("all unlike", y.told(1), 6);
        same("the last", name(y, 2), "</zzzzzz>");
    }

    private static PageSkeleton of180() {
        PageSkeleton x = of(tags('a', 60), tags('b', 60), tags('c', 60));
        is("180 unlike", x.told(1), 180);
        return x;
    }

    private static void twoHundredUnlike() {
        PageSkeleton x = of180();
        is("twenty more", tell(x, tags('d', 20)), 3);
        is("200", x.told(1), 200);
        is("the last one's number", x.token(3, 19), 199);
        is("the last one's sort", x.tokenOf(199, 0), 0);
        is("the last one's letters", x.tokenOf(199, 4), 19);
        noElement(x, "tokenOf(200, 0)", () -> x.tokenOf(200, 0));
        fault(x, "<da>", 2, 0);
        is("known ones are read", tell(x, tags('a', 60)), 4);
        is("200", x.told(1), 200);
    }

    private static void faultyTextLeavesNothing() {
        PageSkeleton x = laid("<a>x<a>y");
        String before = allTold(x);
        String[] faulty = {"<b>z?", many("<a>", 61), "", "<q><r><s", "abcdefg"};
        for (String text : faulty) {
            tell(x, text);
            is("a fault", x.fault() >= 0, true);
            is("pages", x.told(0), 1);
            is("tokens", x.told(1), 3);
            skeletonIs(x, "{<a>?}");
        }
        // Tokens of faulty texts have no numbers: the next new one has the next number.
        is("page", tell(x, "w"), 1);
        is("its number", x.token(1, 0), 3);
        is("in one page", x.tokenOf(3, 8), 1);
        same("ahead", before, "1 3 3 2 1 0 1 1 0 0 4 3 2 1 1 -1 {<a>?}");
    }

    private static void cannotStandThere() {
        fault("?", 1, 0);
        fault("  ?", 1, 2);
        fault("<a>?", 1, 3);
        fault("<a> ?", 1, 4);
        fault("x?", 1, 1);
        fault("x y z?", 1, 5);
        fault("<?", 1, 1);
        fault("</?", 1, 2);
        fault("<a?", 1, 2);
        fault("</a?>", 1, 3);
        fault("</abcdef?>", 1, 8);
        fault(many(" ", 399) + "?", 1, 399);
    }

    private static void endsTooEarly() {
        String[] texts = {"<", "</", "<a", "</a", "<abcdef", "</abcdef", "x <", "<a><", "<a></", " <b"};
        for (String text : texts) {
            fault(text, 1, text.length());
        }
        // What would end it stands behind the text.
        PageSkeleton x = new PageSkeleton();
        for (int n = 1; n < 9; n++) {
            feed(x, "</abcdef>");
            is("cut off", x.page(n), -9);
            is("at the end", x.fault(), n);
        }
        fault(many(" ", 399) + "<", 1, 400);
    }

    private static void seventhLetter() {
        fault("abcdefg", 1, 6);
        fault("<abcdefg>", 1, 7);
        fault("</abcdefg>", 1, 8);
        fault("abcdefghijkl", 1, 6);
        fault("x <abcdefghi>", 1, 9);
        fault("<a>abcdefz", 1, 9);
        fault("<abcdefg", 1, 7);
    }

    private static void sixtyFirstToken() {
        String sixty = many("<a>", 60);
        fault(sixty + "<b>", 2, 180);
        fault(sixty + "</b>", 2, 180);
        fault(sixty + "b", 2, 180);
        fault(sixty + "abcdef", 2, 180);
        fault(sixty + "   <a>", 2, 183);
        fault(sixty + "<a><a>", 2, 180);
        fault(many("x ", 60) + "x", 2, 120);
        fault(many("x ", 60) + "  yz ", 2, 122);
        is("blanks behind sixty", of(sixty + "    ").pageOf(0, 0), 60);
    }

    private static void unlike201st() {
        PageSkeleton x = of180();
        String twenty = tags('d', 20);
        fault(x, twenty + "<zz>", 2, 100);
        fault(x, twenty + "</zz>", 2, 100);
        fault(x, twenty + "zz", 2, 100);
        fault(x, twenty + tags('a', 39) + "  <zz>", 2, 297);
        fault(x, twenty + twenty + "</daa>", 2, 200);
        is("180 unlike yet", x.told(1), 180);
        is("the 200th, and known ones", tell(x, twenty + tags('a', 40)), 3);
        fault(x, "<zz>", 2, 0);
        fault(x, "<daa> daa", 2, 6);
        fault(x, "  </daa>", 2, 2);
        is("known ones", tell(x, "<daa><aaa>"), 4);
    }

    private static void noToken() {
        int[] blanks = {0, 1, 2, 20, 399, 400};
        for (int n : blanks) {
            fault(many(" ", n), 1, n);
        }
        PageSkeleton x = new PageSkeleton();
        feed(x, "<a>");
        is("with no byte", x.page(0), -9);
        is("at the end", x.fault(), 0);
        feed(x, "   <a>");
        is("with blanks alone", x.page(3), -9);
        is("at the end", x.fault(), 3);
    }

    private static void firstFromTheLeft() {
        fault("<a>? ?", 1, 3);
        fault("?" + many("<a>", 61), 1, 0);
        fault(many("<a>", 60) + "?<a>", 1, 180);
        fault(many("<a>", 60) + "<a>?", 2, 180);
        fault(many("<a>", 60) + "x?", 2, 180);
        fault("abcdefg?", 1, 6);
        PageSkeleton x = of180();
        fault(x, "?" + tags('d', 21), 1, 0);
        fault(x, tags('d', 21) + "?", 2, 100);
        fault(x, tags('d', 20) + "? <zz>", 1, 100);
        fault(x, tags('d', 21) + many("<daa>", 39) + "<daa>", 2, 100);
        fault(x, tags('d', 20) + tags('a', 40) + "<zz>", 2, 300);
        fault(x, "<zz" + tags('d', 21), 1, 3);
    }

    private static void latestFault() {
        PageSkeleton x = new PageSkeleton();
        is("no text yet", x.fault(), -1);
        fault(x, "<a>?", 1, 3);
        is("asked again", x.fault(), 3);
        noArgument(x, "page(1)", () -> x.page(1));
        is("no text was read", x.fault(), 3);
        feed(x, "?");
        is("feeding changes nothing", x.fault(), 3);
        is("a good one", x.page(0), -9);
        is("the latest", x.fault(), 0);
        is("a good one", tell(x, "<a>"), 0);
        is("without", x.fault(), -1);
        x.lay(0);
        fault(x, "  ", 1, 2);
        x.lay(0);
        x.undo();
        x.clear();
        is("of the latest text", x.fault(), 2);
        for (int page = 1; page < 8; page++) {
            tell(x, "x");
        }
        feed(x, "?");
        noState(x, "a ninth", () -> x.page(1));
        is("no text was read", x.fault(), -1);
    }

    private static void lettersTold() {
        PageSkeleton x = of("a <az> </zab> abcd <zzzzz> </aaaaaa>");
        String[] due = {"a", "az", "zab", "abcd", "zzzzz", "aaaaaa"};
        for (int token = 0; token < due.length; token++) {
            is("how many", x.tokenOf(token, 1), due[token].length());
            for (int i = 0; i < 6; i++) {
                int letter = i < due[token].length() ? due[token].charAt(i) - 'a' : -1;
                is("letter " + i + " of " + due[token], x.tokenOf(token, 2 + i), letter);
            }
        }
    }

    private static void pagesCounted() {
        PageSkeleton x = of("<a>x x x", "x", "</a>a", "<a>", "x", "x", "x", "x");
        int[] due = {2, 6, 1, 1};
        for (int token = 0; token < due.length; token++) {
            is("tokenOf(" + token + ", 8)", x.tokenOf(token, 8), due[token]);
        }
        PageSkeleton y = new PageSkeleton();
        for (int page = 0; page < 8; page++) {
            tell(y, "x");
            is("so far", y.tokenOf(0, 8), page + 1);
        }
    }

    private static void bytesTold() {
        PageSkeleton x = new PageSkeleton();
        is("none", x.told(9), 0);
        x.feed(0, 0, 0, 0, 0);
        is("twenty", x.told(9), 20);
        x.clear();
        x.undo();
        is("nothing else empties it", x.told(9), 20);
        x.page(0);
        is("none again", x.told(9), 0);
    }
}
