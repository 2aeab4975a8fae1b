import java.util.NoSuchElementException;

/** What the tests have in common: pages told as texts, skeletons told as texts, refusals, one sentence at a time. */
abstract class Checks {
    private static int wrong = 0;
    private static int sentences = 0;
    private static String label = "";

    interface Call {
        int ask();
    }

    /** A test of its own for one sentence of the document. */
    static void sentence(String words, Runnable test) {
        label = words;
        sentences++;
        try {
            test.run();
        } catch (RuntimeException e) {
            wrong("threw " + e);
            e.printStackTrace(System.out);
        }
    }

    static void end() {
        System.out.println(sentences + " sentences, " + wrong + " wrong");
        System.exit(wrong > 0 || sentences == 0 ? 1 : 0);
    }

    private static void wrong(String what) {
        wrong++;
        System.out.println(label + ": " + what);
    }

    static void is(String what, int got, int due) {
        if (got != due) {
            wrong(what + " answered " + got + ", due is " + due);
        }
    }

    static void is(String what, boolean got, boolean due) {
        is(what, got ? 1 : 0, due ? 1 : 0);
    }

    static void same(String what, String got, String due) {
        if (!got.equals(due)) {
            wrong(what + " is " + got + ", due is " + due);
        }
    }

    /** Refused by just that exception, and counted, and nothing else that is told has changed. */
    private static void refused(PageSkeleton x, String what, Class<?> by, Call call) {
        int reason = by == NoSuchElementException.class ? 0 : by == IllegalArgumentException.class ? 1 : 2;
        int[] counts = {x.status(0), x.status(1), x.status(2)};
        counts[reason]++;
        String told = allTold(x);
        Class<?> got = null;
        try {
            call.ask();
        } catch (RuntimeException e) {
            got = e.getClass();
        }
        if (got != by) {
            wrong(what + " was refused by " + got + ", due is " + by);
        }
        for (int i = 0; i < 3; i++) {
            is(what + ", status(" + i + ")", x.status(i), counts[i]);
        }
        same("behind " + what + " all", allTold(x), told);
    }

    static void noElement(PageSkeleton x, String what, Call call) {
        refused(x, what, NoSuchElementException.class, call);
    }

    static void noArgument(PageSkeleton x, String what, Call call) {
        refused(x, what, IllegalArgumentException.class, call);
    }

    static void noState(PageSkeleton x, String what, Call call) {
        refused(x, what, IllegalStateException.class, call);
    }

    /** What nobody but a call that changes it may change. */
    static String allTold(PageSkeleton x) {
        StringBuilder all = new StringBuilder();
        for (int what = 0; what < 10; what++) {
            all.append(x.told(what)).append(' ');
        }
        for (int page = 0; page < x.told(0); page++) {
            for (int what = 0; what < 5; what++) {
                all.append(x.pageOf(page, what)).append(' ');
            }
        }
        return all.append(x.fault()).append(' ').append(text(x)).toString();
    }

    static void feed(PageSkeleton x, String text) {
        for (int i = 0; i < text.length(); i += 20) {
            int[] numbers = new int[5];
            for (int k = 0; k < 20; k++) {
                int sign = i + k < text.length() ? text.charAt(i + k) : 0;
                numbers[k / 4] = numbers[k / 4] << 8 | sign;
            }
            x.feed(numbers[0], numbers[1], numbers[2], numbers[3], numbers[4]);
        }
    }

    static int tell(PageSkeleton x, String text) {
        feed(x, text);
        return x.page(text.length());
    }

    static PageSkeleton of(String... texts) {
        PageSkeleton x = new PageSkeleton();
        for (String text : texts) {
            is("page '" + text + "'", tell(x, text), x.told(0) - 1);
        }
        return x;
    }

    /** All of them laid, one behind the other. */
    static PageSkeleton laid(String... texts) {
        PageSkeleton x = of(texts);
        for (int page = 0; page < texts.length; page++) {
            x.lay(page);
        }
        return x;
    }

    private interface Asked {
        int of(int node, int what);
    }

    /** The skeleton as a text: ? for a field, [ ] round an option, { } round a repeat, words and tags by names. */
    static String text(PageSkeleton x) {
        return text(x, x::node, x.told(2), PageSkeleton.NONE);
    }

    /** A page, folded, as such a text. */
    static String folded(PageSkeleton x, int page) {
        return text(x, (node, what) -> x.pageNode(page, node, what), x.pageOf(page, 1), PageSkeleton.NONE);
    }

    private static String text(PageSkeleton x, Asked asked, int nodes, int inside) {
        StringBuilder text = new StringBuilder();
        for (int node = inside + 1; node < nodes; node++) {
            if (asked.of(node, 3) == inside) {
                int sort = asked.of(node, 0);
                if (sort <= 1) {
                    text.append(name(x, asked.of(node, 1)));
                } else if (sort == 2) {
                    text.append('?');
                } else {
                    String kids = text(x, asked, nodes, node);
                    text.append(sort == 3 ? "[" + kids + "]" : "{" + kids + "}");
                }
            }
        }
        return text.toString();
    }

    /** A tag as it stands, a word between blanks. */
    static String name(PageSkeleton x, int token) {
        StringBuilder name = new StringBuilder(new String[] {"<", "</", " "}[x.tokenOf(token, 0)]);
        for (int i = 0; i < x.tokenOf(token, 1); i++) {
            name.append((char) ('a' + x.tokenOf(token, 2 + i)));
        }
        return name.append(x.tokenOf(token, 0) == 2 ? ' ' : '>').toString();
    }

    static void skeletonIs(PageSkeleton x, String due) {
        same("the skeleton", text(x), due);
    }

    static String many(String part, int times) {
        return part.repeat(times);
    }

    /** So many tags, all unlike one another and unlike those with another first letter. */
    static String tags(char first, int count) {
        StringBuilder text = new StringBuilder();
        for (int i = 0; i < count; i++) {
            text.append('<').append(first).append((char) ('a' + i / 26)).append((char) ('a' + i % 26)).append('>');
        }
        return text.toString();
    }
}
