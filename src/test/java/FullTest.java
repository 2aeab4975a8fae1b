import java.util.ArrayList;
import java.util.List;
import java.util.Random;

/**
 * Long pages laid often, as full as the skeleton can be: no call may throw but as the document says, what fits
 * must go on fitting, and what is asked must agree with itself.
 */
public final class FullTest {
    private final Random random;
    private final PageSkeleton x = new PageSkeleton();
    private final int letters;
    private int calls = 0;
    private static int wrong = 0;
    private static int longest = 0;

    private FullTest(long seed) {
        random = new Random(seed);
        letters = 1 + random.nextInt(8);
    }

    public static void main(String[] args) {
        long first = args.length > 0 ? Long.parseLong(args[0]) : 1;
        long runs = args.length > 1 ? Long.parseLong(args[1]) : 60;
        for (long seed = first; seed < first + runs && wrong == 0; seed++) {
            try {
                new FullTest(seed).run();
            } catch (RuntimeException e) {
                wrong++;
                e.printStackTrace(System.out);
            }
            if (wrong > 0) {
                System.out.println("seed " + seed);
            }
        }
        System.out.println(runs + " runs, " + wrong + " wrong, the longest line " + longest);
        System.exit(wrong > 0 ? 1 : 0);
    }

    private static void check(boolean right, String what) {
        if (!right) {
            wrong++;
            System.out.println("not so: " + what);
        }
    }

    private String token() {
        char name = (char) ('a' + random.nextInt(letters));
        return random.nextInt(5) == 0 ? String.valueOf((char) ('u' + random.nextInt(5))) : "<" + name + ">";
    }

    // Parts said again and again, so that repeats come to stand in repeats.
    private List<String> part(int depth) {
        List<String> tokens = new ArrayList<>();
        int parts = 1 + random.nextInt(4);
        for (int i = 0; i < parts; i++) {
            if (depth == 0 || random.nextInt(3) == 0) {
                tokens.add(token());
            } else {
                List<String> again = part(depth - 1);
                for (int k = random.nextInt(3); k >= 0; k--) {
                    tokens.addAll(again);
                    if (random.nextInt(4) == 0) {
                        tokens.set(random.nextInt(tokens.size()), token());
                    }
                }
            }
        }
        return tokens;
    }

    private String text() {
        List<String> tokens = new ArrayList<>();
        while (tokens.size() < 30 + random.nextInt(30)) {
            tokens.addAll(part(3));
        }
        StringBuilder text = new StringBuilder();
        for (int i = 0; i < Math.min(60, tokens.size()); i++) {
            text.append(tokens.get(i)).append(tokens.get(i).length() == 1 ? " " : "");
        }
        return text.toString();
    }

    private void tell(String text) {
        for (int i = 0; i < text.length(); i += 20) {
            int[] numbers = new int[5];
            for (int k = 0; k < 20; k++) {
                numbers[k / 4] = numbers[k / 4] << 8 | (i + k < text.length() ? text.charAt(i + k) : 0);
            }
            x.feed(numbers[0], numbers[1], numbers[2], numbers[3], numbers[4]);
            calls++;
        }
        check(x.page(text.length()) >= 0, "the page is read: " + text);
        calls++;
    }

    private void run() {
        int pages = 2 + random.nextInt(7);
        for (int i = 0; i < pages; i++) {
            tell(text());
        }
        if (pages <= 4) {
            check(x.orders(3) >= 1 && x.orders(0) >= 1, "orders");
            calls += 2;
        }
        while (calls < 440) {
            change(random.nextInt(pages));
            askAll(random.nextInt(pages));
            longest = Math.max(longest, x.told(2) + x.told(5) + x.told(6));
            calls += 25;
        }
    }

    private void change(int page) {
        int before = x.fitting();
        int what = random.nextInt(12);
        if (what < 8) {
            int cost = x.would(page, 0);
            int size = x.would(page, 1);
            int nodes = x.would(page, 2);
            int costs = x.told(8);
            try {
                check(x.lay(page) == cost, "the cost is as told");
                check(x.told(3) == size && x.told(2) == nodes && x.told(8) == costs + cost, "it is as told");
                check(x.fitting() == (x.fitting() | before | 1 << page), "what is laid fits");
            } catch (IllegalStateException e) {
                check(size > 160, "it is too large");
                x.undo();
            }
        } else if (what < 11) {
            int size = x.tidied(1);
            int fit = x.tidied(3);
            x.tidy();
            check(x.told(3) == size && Integer.bitCount(x.fitting()) == fit, "tidied as told");
            check((x.fitting() & before) == before, "what fits still fits");
        } else {
            x.undo();
        }
    }

    private void askAll(int page) {
        int tokens = x.pageOf(page, 0);
        boolean fits = x.fits(page);
        check(fits == x.ways(page) > 0, "ways");
        check((x.cuts(page) == 0) == fits, "cuts");
        check(!fits || x.reach(page) == tokens, "reach");
        check(x.derived(x.shortest()) > 0, "shortest");
        check(x.shortest() == 0 || x.derived(x.shortest() - 1) == 0, "none shorter");
        check(x.distance(page, page) == 0 && x.common(page, page) == tokens, "to itself");
        check(x.nearest(page) != page, "nearest");
        int taken = 0;
        int most = x.told(2);
        for (int node = Math.max(0, most - 3); node < most; node++) {
            taken = Math.max(taken, x.times(page, node));
            check(x.greatest(node) >= x.times(page, node), "greatest");
            check(fits == x.times(page, node) >= 0, "times");
            check(x.passes(page, node) < 0 || x.passes(page, node) >= x.times(page, node), "passes");
            check((x.users(node) >> page & 1) == (x.times(page, node) > 0 ? 1 : 0), "users");
        }
        check(taken <= tokens, "no more than there are");
        int k = random.nextInt(tokens);
        check(fits == x.taker(page, k) >= 0, "taker");
        check(!fits || x.node(x.taker(page, k), 0) <= 2, "a leaf takes it");
    }
}
