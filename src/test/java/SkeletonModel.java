import java.math.BigInteger;
import java.util.ArrayList;
import java.util.HashMap;
import java.util.HashSet;
import java.util.IdentityHashMap;
import java.util.LinkedHashMap;
import java.util.List;
import java.util.Map;
import java.util.NoSuchElementException;
import java.util.Set;

/**
 * The document told once more, as trees and as plainly as it can be, for tests to hold the class against. It
 * shares nothing with the class: rows are lists, pages are gone through by stretches, orders are tried whole.
 */
final class SkeletonModel {
    /** The walk took too long to find: the answer is not to be compared. */
    static final class Skip extends RuntimeException {
        private static final long serialVersionUID = 1L;
    }

    static final class Item {
        final char kind;
        final int token;
        final List<Item> kids = new ArrayList<>();

        Item(char kind, int token) {
            this.kind = kind;
            this.token = token;
        }

        Item(char kind, List<Item> kids) {
            this(kind, -1);
            this.kids.addAll(kids);
        }

        boolean wordy() {
            return kind == 'W' || kind == 'F';
        }

        boolean inner() {
            return kind == 'O' || kind == 'R';
        }

        Item copy() {
            Item copy = new Item(kind, token);
            copy.kids.addAll(copyOf(kids));
            return copy;
        }
    }

    static final class Laid {
        int cost;
        List<Item> row = new ArrayList<>();
    }

    private static final class Page {
        final List<Integer> tokens = new ArrayList<>();
        List<Item> folded;
        final List<int[]> steps = new ArrayList<>();
    }

    private static final class State {
        final List<Item> row;
        final int costs;

        State(List<Item> row, int costs) {
            this.row = row;
            this.costs = costs;
        }
    }

    private static final class Walked {
        final Map<Item, Integer> there = new IdentityHashMap<>();
        final Map<Item, Integer> passed = new IdentityHashMap<>();
        final List<Item> takers = new ArrayList<>();
    }

    private final StringBuilder tape = new StringBuilder();
    private final LinkedHashMap<String, Integer> dictionary = new LinkedHashMap<>();
    private final List<Page> pages = new ArrayList<>();
    private List<Item> skeleton = new ArrayList<>();
    private int costs = 0;
    private final List<State> past = new ArrayList<>();
    private int faultPlace = -1;
    private final int[] refused = new int[3];

    private final Map<Integer, int[]> ordersKept = new HashMap<>();
    private final Map<Integer, Walked> walksKept = new HashMap<>();

    static List<Item> copyOf(List<Item> row) {
        List<Item> copy = new ArrayList<>();
        for (Item item : row) {
            copy.add(item.copy());
        }
        return copy;
    }

    // ---- refusals

    private void element(boolean right) {
        if (!right) {
            refused[0]++;
            throw new NoSuchElementException();
        }
    }

    private void argument(boolean right) {
        if (!right) {
            refused[1]++;
            throw new IllegalArgumentException();
        }
    }

    private void state(boolean right) {
        if (!right) {
            refused[2]++;
            throw new IllegalStateException();
        }
    }

    private Page pageAt(int page) {
        element(page >= 0 && page < pages.size());
        return pages.get(page);
    }

    private static void list(List<Item> row, List<Item> into) {
        for (Item item : row) {
            into.add(item);
            list(item.kids, into);
        }
    }

    static List<Item> nodes(List<Item> row) {
        List<Item> all = new ArrayList<>();
        list(row, all);
        return all;
    }

    private Item nodeAt(List<Item> row, int node) {
        List<Item> all = nodes(row);
        element(node >= 0 && node < all.size());
        return all.get(node);
    }

    // ---- items

    static int size(Item item) {
        return item.inner() ? size(item.kids) : 1;
    }

    static int size(List<Item> row) {
        int size = 0;
        for (Item item : row) {
            size += size(item);
        }
        return size;
    }

    static boolean alike(Item a, Item b) {
        if (a.kind == 'T' && b.kind == 'T') {
            return a.token == b.token;
        }
        if (a.wordy() && b.wordy()) {
            return true;
        }
        return a.inner() && a.kind == b.kind && alike(a.kids, b.kids);
    }

    static boolean alike(List<Item> a, List<Item> b) {
        if (a.size() != b.size()) {
            return false;
        }
        for (int i = 0; i < a.size(); i++) {
            if (!alike(a.get(i), b.get(i))) {
                return false;
            }
        }
        return true;
    }

    static Item fuse(Item a, Item b, int[] cost) {
        if (a.inner()) {
            return new Item(a.kind, fuse(a.kids, b.kids, cost));
        }
        if (a.kind == 'W' && b.kind == 'W' && a.token != b.token) {
            cost[0]++;
        }
        if (a.kind == b.kind && a.token == b.token) {
            return a.copy();
        }
        return new Item('F', -1);
    }

    static List<Item> fuse(List<Item> a, List<Item> b, int[] cost) {
        List<Item> row = new ArrayList<>();
        for (int i = 0; i < a.size(); i++) {
            row.add(fuse(a.get(i), b.get(i), cost));
        }
        return row;
    }

    static int[] foldOnce(List<Item> row) {
        for (int size = 1; size <= row.size(); size++) {
            for (int at = 0; at + 2 * size <= row.size(); at++) {
                List<Item> first = row.subList(at, at + size);
                boolean firm = false;
                for (Item item : first) {
                    firm |= item.kind == 'T' || item.kind == 'R';
                }
                int count = 1;
                while (at + (count + 1) * size <= row.size()
                    && alike(first, row.subList(at + count * size, at + (count + 1) * size))) {
                    count++;
                }
                if (firm && count >= 2) {
                    List<Item> made = new ArrayList<>(first);
                    for (int i = 1; i < count; i++) {
                        made = fuse(made, row.subList(at + i * size, at + (i + 1) * size), new int[1]);
                    }
                    replace(row, at, count * size, new Item('R', copyOf(made)));
                    return new int[] {size, at, count};
                }
            }
        }
        return null;
    }

    private static void replace(List<Item> row, int at, int count, Item by) {
        for (int i = 0; i < count; i++) {
            row.remove(at);
        }
        row.add(at, by);
    }

    // ---- laying

    private static final class Way {
        final int cost;
        final String ways;

        Way(int cost, String ways) {
            this.cost = cost;
            this.ways = ways;
        }

        boolean ahead(Way other) {
            return other == null || cost < other.cost || cost == other.cost && ways.compareTo(other.ways) < 0;
        }
    }

    static Laid layRow(List<Item> s, List<Item> p) {
        Map<Integer, Way> known = new HashMap<>();
        Map<Integer, Laid> inner = new HashMap<>();
        Way best = bestFrom(s, p, 0, 0, known, inner);
        Laid laid = new Laid();
        laid.cost = best.cost;
        int i = 0;
        int j = 0;
        char before = ' ';
        for (char way : best.ways.toCharArray()) {
            if (way == '1') {
                Laid inside = inner.get(i * 1000 + j);
                laid.row.add(inside != null ? new Item('R', copyOf(inside.row)) : fuse(s.get(i), p.get(j), new int[1]));
                i++;
                j++;
            } else if (way == '2') {
                int n = s.get(i).kids.size();
                laid.row.add(new Item(s.get(i).kind, fuse(s.get(i).kids, p.subList(j, j + n), new int[1])));
                i++;
                j += n;
            } else if (way == '3') {
                int n = p.get(j).kids.size();
                laid.row.add(new Item('R', fuse(s.subList(i, i + n), p.get(j).kids, new int[1])));
                i += n;
                j++;
            } else if (way == '4' && s.get(i).kind == 'O') {
                laid.row.add(s.get(i).copy());
                i++;
                before = 'O';
                continue;
            } else {
                Item left = way == '4' ? s.get(i++) : p.get(j++);
                if (before == way) {
                    laid.row.get(laid.row.size() - 1).kids.add(left.copy());
                } else {
                    laid.row.add(new Item('O', List.of(left.copy())));
                }
            }
            before = way;
        }
        return laid;
    }

    private static Way bestFrom(List<Item> s, List<Item> p, int i, int j, Map<Integer, Way> known,
        Map<Integer, Laid> inner) {
        int key = i * 1000 + j;
        if (known.containsKey(key)) {
            return known.get(key);
        }
        Way best = i == s.size() && j == p.size() ? new Way(0, "") : null;
        if (i < s.size() && j < p.size()) {
            Item a = s.get(i);
            Item b = p.get(j);
            int[] cost = new int[1];
            if (!a.inner() && alike(a, b)) {
                fuse(a, b, cost);
                best = better(best, cost[0], '1', bestFrom(s, p, i + 1, j + 1, known, inner));
            }
            if (a.kind == 'R' && b.kind == 'R') {
                Laid inside = layRow(a.kids, b.kids);
                boolean firm = false;
                for (Item item : inside.row) {
                    firm |= item.kind != 'O';
                }
                if (firm) {
                    inner.put(key, inside);
                    best = better(best, inside.cost, '1', bestFrom(s, p, i + 1, j + 1, known, inner));
                }
            }
            int n = a.kids.size();
            if (a.inner() && j + n <= p.size() && alike(a.kids, p.subList(j, j + n))) {
                cost[0] = 0;
                fuse(a.kids, p.subList(j, j + n), cost);
                best = better(best, cost[0], '2', bestFrom(s, p, i + 1, j + n, known, inner));
            }
            int m = b.kids.size();
            if (b.kind == 'R' && i + m <= s.size() && alike(s.subList(i, i + m), b.kids)) {
                cost[0] = 0;
                fuse(s.subList(i, i + m), b.kids, cost);
                best = better(best, cost[0], '3', bestFrom(s, p, i + m, j + 1, known, inner));
            }
        }
        if (i < s.size()) {
            int cost = s.get(i).kind == 'O' ? 0 : size(s.get(i));
            best = better(best, cost, '4', bestFrom(s, p, i + 1, j, known, inner));
        }
        if (j < p.size()) {
            best = better(best, size(p.get(j)), '5', bestFrom(s, p, i, j + 1, known, inner));
        }
        known.put(key, best);
        return best;
    }

    private static Way better(Way best, int cost, char way, Way rest) {
        Way next = new Way(cost + rest.cost, way + rest.ways);
        return next.ahead(best) ? next : best;
    }

    private Laid laidOn(List<Item> row, Page page) {
        if (row.isEmpty()) {
            Laid laid = new Laid();
            laid.row = copyOf(page.folded);
            return laid;
        }
        return layRow(row, page.folded);
    }

    // ---- tidying

    static int tidyRow(List<Item> row) {
        int done = 0;
        for (Item item : row) {
            done += tidyRow(item.kids);
        }
        while (joinTwins(row) || joinAhead(row) || joinBehind(row) || foldOnce(row) != null) {
            done++;
        }
        return done;
    }

    private static boolean joinTwins(List<Item> row) {
        for (int i = 0; i + 1 < row.size(); i++) {
            if (row.get(i).kind == 'R' && row.get(i + 1).kind == 'R' && alike(row.get(i), row.get(i + 1))) {
                replace(row, i, 2, fuse(row.get(i), row.get(i + 1), new int[1]));
                return true;
            }
        }
        return false;
    }

    private static boolean joinAhead(List<Item> row) {
        for (int i = 0; i < row.size(); i++) {
            int n = row.get(i).kids.size();
            if (row.get(i).kind == 'R' && i >= n && alike(row.subList(i - n, i), row.get(i).kids)) {
                replace(row, i - n, n + 1, new Item('R', fuse(row.subList(i - n, i), row.get(i).kids, new int[1])));
                return true;
            }
        }
        return false;
    }

    private static boolean joinBehind(List<Item> row) {
        for (int i = 0; i < row.size(); i++) {
            int n = row.get(i).kids.size();
            if (row.get(i).kind == 'R' && i + 1 + n <= row.size()
                && alike(row.subList(i + 1, i + 1 + n), row.get(i).kids)) {
                List<Item> behind = row.subList(i + 1, i + 1 + n);
                replace(row, i, n + 1, new Item('R', fuse(row.get(i).kids, behind, new int[1])));
                return true;
            }
        }
        return false;
    }

    // ---- going through, by stretches of tokens

    private boolean takes(Item item, int token) {
        boolean word = sortOf(token) == 2;
        return item.kind == 'F' ? word : item.token == token;
    }

    private int sortOf(int token) {
        return nameOf(token).charAt(0) - '0';
    }

    private String nameOf(int token) {
        return new ArrayList<>(dictionary.keySet()).get(token);
    }

    private final class Through {
        final List<Integer> tokens;
        final Map<String, BigInteger> ways = new HashMap<>();
        final Map<String, Integer> cuts = new HashMap<>();
        final Map<Item, Integer> names = new IdentityHashMap<>();
        int budget = 300000;

        Through(List<Integer> tokens) {
            this.tokens = tokens;
        }

        private String key(Object what, List<Item> row, int index, int i, int j) {
            Item sign = row.isEmpty() ? null : row.get(0);
            names.putIfAbsent(sign, names.size());
            return what + " " + names.get(sign) + " " + index + " " + i + " " + j;
        }

        BigInteger row(List<Item> row, int index, int i, int j) {
            if (index == row.size()) {
                return i == j ? BigInteger.ONE : BigInteger.ZERO;
            }
            String key = key("row", row, index, i, j);
            if (!ways.containsKey(key)) {
                BigInteger sum = BigInteger.ZERO;
                for (int m = i; m <= j; m++) {
                    BigInteger head = item(row.get(index), i, m);
                    if (head.signum() > 0) {
                        sum = sum.add(head.multiply(row(row, index + 1, m, j)));
                    }
                }
                ways.put(key, sum);
            }
            return ways.get(key);
        }

        BigInteger item(Item item, int i, int j) {
            if (item.kind == 'O') {
                return row(item.kids, 0, i, j).add(i == j ? BigInteger.ONE : BigInteger.ZERO);
            }
            if (item.kind == 'R') {
                String key = key("passes", item.kids, 0, i, j);
                if (!ways.containsKey(key)) {
                    BigInteger sum = row(item.kids, 0, i, j);
                    for (int m = i + 1; m < j; m++) {
                        BigInteger head = row(item.kids, 0, i, m);
                        if (head.signum() > 0) {
                            sum = sum.add(head.multiply(item(item, m, j)));
                        }
                    }
                    ways.put(key, sum);
                }
                return ways.get(key);
            }
            return j == i + 1 && takes(item, tokens.get(i)) ? BigInteger.ONE : BigInteger.ZERO;
        }

        int reachRow(List<Item> row, int index, int i) {
            if (index == row.size()) {
                return i;
            }
            int far = reachItem(row.get(index), i);
            for (int m = i; m <= tokens.size(); m++) {
                if (item(row.get(index), i, m).signum() > 0) {
                    far = Math.max(far, reachRow(row, index + 1, m));
                }
            }
            return far;
        }

        int reachItem(Item item, int i) {
            if (!item.inner()) {
                return i < tokens.size() && takes(item, tokens.get(i)) ? i + 1 : i;
            }
            int far = reachRow(item.kids, 0, i);
            for (int m = i + 1; item.kind == 'R' && m <= tokens.size(); m++) {
                if (row(item.kids, 0, i, m).signum() > 0) {
                    far = Math.max(far, reachItem(item, m));
                }
            }
            return far;
        }

        int cutRow(List<Item> row, int index, int i, int j) {
            if (index == row.size()) {
                return j - i;
            }
            String key = key("row", row, index, i, j);
            if (!cuts.containsKey(key)) {
                int least = 100000;
                for (int m = i; m <= j; m++) {
                    int head = cutItem(row.get(index), i, m);
                    if (head < 100000) {
                        least = Math.min(least, head + cutRow(row, index + 1, m, j));
                    }
                }
                cuts.put(key, least);
            }
            return cuts.get(key);
        }

        int cutItem(Item item, int i, int j) {
            if (item.kind == 'O') {
                return Math.min(j - i, cutRow(item.kids, 0, i, j));
            }
            if (item.kind == 'R') {
                String key = key("passes", item.kids, 0, i, j);
                if (!cuts.containsKey(key)) {
                    int least = cutRow(item.kids, 0, i, j);
                    for (int m = i + 1; m < j; m++) {
                        least = Math.min(least, cutRow(item.kids, 0, i, m) + cutItem(item, m, j));
                    }
                    cuts.put(key, least);
                }
                return cuts.get(key);
            }
            for (int m = i; m < j; m++) {
                if (takes(item, tokens.get(m))) {
                    return j - i - 1;
                }
            }
            return 100000;
        }

        // Tries all choices in the order of the WALK; the first way to the end is it.
        boolean walk(List<Item> row, int index, int k, Next next, Walked walked) {
            if (budget-- < 0) {
                throw new Skip();
            }
            if (index == row.size()) {
                return next.on(k);
            }
            Item item = row.get(index);
            Next behind = at -> walk(row, index + 1, at, next, walked);
            if (item.kind == 'O') {
                add(walked.there, item, 1);
                if (walk(item.kids, 0, k, behind, walked)) {
                    return true;
                }
                add(walked.there, item, -1);
                return behind.on(k);
            }
            if (item.kind == 'R') {
                add(walked.there, item, 1);
                if (pass(item, k, behind, walked)) {
                    return true;
                }
                add(walked.there, item, -1);
                return false;
            }
            if (k == tokens.size() || !takes(item, tokens.get(k))) {
                return false;
            }
            walked.takers.add(item);
            add(walked.there, item, 1);
            if (behind.on(k + 1)) {
                return true;
            }
            walked.takers.remove(walked.takers.size() - 1);
            add(walked.there, item, -1);
            return false;
        }

        boolean pass(Item item, int k, Next behind, Walked walked) {
            add(walked.passed, item, 1);
            if (walk(item.kids, 0, k, at -> pass(item, at, behind, walked) || behind.on(at), walked)) {
                return true;
            }
            add(walked.passed, item, -1);
            return false;
        }
    }

    private interface Next {
        boolean on(int k);
    }

    private static void add(Map<Item, Integer> counts, Item item, int more) {
        counts.merge(item, more, Integer::sum);
    }

    private BigInteger waysThrough(List<Item> row, Page page) {
        return new Through(page.tokens).row(row, 0, 0, page.tokens.size());
    }

    private Walked walkOf(int number) {
        if (!walksKept.containsKey(number)) {
            Page page = pages.get(number);
            Walked walked = null;
            if (waysThrough(skeleton, page).signum() > 0) {
                walked = new Walked();
                int n = page.tokens.size();
                if (!new Through(page.tokens).walk(skeleton, 0, 0, k -> k == n, walked)) {
                    throw new AssertionError("a page that fits has no walk");
                }
            }
            walksKept.put(number, walked);
        }
        return walksKept.get(number);
    }

    private void become(List<Item> row) {
        skeleton = row;
        walksKept.clear();
    }

    // ---- the face

    public int feed(int a, int b, int c, int d, int e) {
        if (tape.length() > 380) {
            return -1;
        }
        for (int number : new int[] {a, b, c, d, e}) {
            for (int i = 3; i >= 0; i--) {
                tape.append((char) (number >> (8 * i) & 255));
            }
        }
        return tape.length();
    }

    public int page(int n) {
        argument(n >= 0 && n <= tape.length());
        state(pages.size() < 8);
        String text = tape.substring(0, n);
        tape.setLength(0);
        Page page = new Page();
        LinkedHashMap<String, Integer> more = new LinkedHashMap<>(dictionary);
        int fault = read(text, page, more);
        if (fault != 0) {
            return fault - 10;
        }
        dictionary.clear();
        dictionary.putAll(more);
        faultPlace = -1;
        page.folded = new ArrayList<>();
        for (int token : page.tokens) {
            page.folded.add(new Item(sortOf(token) == 2 ? 'W' : 'T', token));
        }
        for (int[] step = foldOnce(page.folded); step != null; step = foldOnce(page.folded)) {
            page.steps.add(step);
        }
        pages.add(page);
        return pages.size() - 1;
    }

    private static final java.util.regex.Pattern TOKEN =
        java.util.regex.Pattern.compile("<(/?)([a-z]{1,6})>|([a-z]{1,6})(?![a-z])");

    private int read(String text, Page page, Map<String, Integer> more) {
        java.util.regex.Matcher matcher = TOKEN.matcher(text);
        int at = 0;
        while (at < text.length()) {
            if (text.charAt(at) == ' ') {
                at++;
                continue;
            }
            matcher.region(at, text.length());
            matcher.useTransparentBounds(true);
            if (!matcher.lookingAt()) {
                faultPlace = at + goodStart(text.substring(at));
                return 1;
            }
            String key = matcher.group(3) != null ? "2" + matcher.group(3)
                : (matcher.group(1).isEmpty() ? "0" : "1") + matcher.group(2);
            if (page.tokens.size() == 60 || !more.containsKey(key) && more.size() == 200) {
                faultPlace = at;
                return 2;
            }
            more.putIfAbsent(key, more.size());
            page.tokens.add(more.get(key));
            at = matcher.end();
        }
        if (page.tokens.isEmpty()) {
            faultPlace = text.length();
            return 1;
        }
        return 0;
    }

    // How much of a text could begin a token at all: the longest part from its beginning on that does.
    private static int goodStart(String text) {
        int good = 0;
        while (good < text.length() && text.substring(0, good + 1).matches("<|</|</?[a-z]{1,6}|[a-z]{1,6}")) {
            good++;
        }
        return good;
    }

    public int fault() {
        return faultPlace;
    }

    public int lay(int page) {
        Laid laid = laidOn(skeleton, pageAt(page));
        state(size(laid.row) <= 160);
        remember();
        become(laid.row);
        costs += laid.cost;
        return laid.cost;
    }

    private void remember() {
        past.add(new State(skeleton, costs));
        if (past.size() > 16) {
            past.remove(0);
        }
    }

    public int tidy() {
        List<Item> row = copyOf(skeleton);
        int done = tidyRow(row);
        if (done > 0) {
            remember();
            become(row);
        }
        return done;
    }

    public int tidied(int what) {
        argument(what >= 0 && what <= 3);
        List<Item> row = copyOf(skeleton);
        int done = tidyRow(row);
        int fit = 0;
        for (Page page : pages) {
            fit += what == 3 && waysThrough(row, page).signum() > 0 ? 1 : 0;
        }
        return new int[] {done, size(row), nodes(row).size(), fit}[what];
    }

    public int undo() {
        if (past.isEmpty()) {
            return -1;
        }
        State last = past.remove(past.size() - 1);
        become(last.row);
        costs = last.costs;
        return size(skeleton);
    }

    public int clear() {
        int size = size(skeleton);
        become(new ArrayList<>());
        past.clear();
        return size;
    }

    private static int kinds(List<Item> row, char kind) {
        int count = 0;
        for (Item item : nodes(row)) {
            count += item.kind == kind ? 1 : 0;
        }
        return count;
    }

    public int told(int what) {
        argument(what >= 0 && what <= 9);
        return new int[] {pages.size(), dictionary.size(), nodes(skeleton).size(), size(skeleton),
            kinds(skeleton, 'F'), kinds(skeleton, 'O'), kinds(skeleton, 'R'), past.size(), costs,
            tape.length()}[what];
    }

    private static int deep(List<Item> row) {
        int deep = 0;
        for (Item item : row) {
            deep = Math.max(deep, deep(item.kids) + (item.kind == 'R' ? 1 : 0));
        }
        return deep;
    }

    public int pageOf(int page, int what) {
        Page it = pageAt(page);
        argument(what >= 0 && what <= 4);
        return new int[] {it.tokens.size(), nodes(it.folded).size(), size(it.folded), kinds(it.folded, 'R'),
            deep(it.folded)}[what];
    }

    public int token(int page, int k) {
        Page it = pageAt(page);
        element(k >= 0 && k < it.tokens.size());
        return it.tokens.get(k);
    }

    public int tokenOf(int token, int what) {
        element(token >= 0 && token < dictionary.size());
        argument(what >= 0 && what <= 8);
        String name = nameOf(token).substring(1);
        if (what == 0) {
            return sortOf(token);
        }
        if (what == 1) {
            return name.length();
        }
        if (what == 8) {
            int with = 0;
            for (Page page : pages) {
                with += page.tokens.contains(token) ? 1 : 0;
            }
            return with;
        }
        return what - 2 < name.length() ? name.charAt(what - 2) - 'a' : -1;
    }

    private int tell(List<Item> row, int node, int what) {
        Item item = nodeAt(row, node);
        argument(what >= 0 && what <= 5);
        List<Item> path = new ArrayList<>();
        path(row, item, path);
        switch (what) {
            case 0:
                return "TWFOR".indexOf(item.kind);
            case 1:
                return item.token;
            case 2:
                return path.size();
            case 3:
                return path.isEmpty() ? -1 : nodes(row).indexOf(path.get(path.size() - 1));
            case 4:
                return size(item);
            default:
                return item.kids.size();
        }
    }

    private static boolean path(List<Item> row, Item item, List<Item> path) {
        for (Item each : row) {
            if (each == item) {
                return true;
            }
            path.add(each);
            if (path(each.kids, item, path)) {
                return true;
            }
            path.remove(path.size() - 1);
        }
        return false;
    }

    public int node(int node, int what) {
        return tell(skeleton, node, what);
    }

    public int pageNode(int page, int node, int what) {
        return tell(pageAt(page).folded, node, what);
    }

    public boolean fits(int page) {
        return waysThrough(skeleton, pageAt(page)).signum() > 0;
    }

    public int reach(int page) {
        return new Through(pageAt(page).tokens).reachRow(skeleton, 0, 0);
    }

    public int ways(int page) {
        return waysThrough(skeleton, pageAt(page)).min(BigInteger.valueOf(1000000000)).intValue();
    }

    public int times(int page, int node) {
        pageAt(page);
        Item item = nodeAt(skeleton, node);
        Walked walked = walkOf(page);
        return walked == null ? -1 : walked.there.getOrDefault(item, 0);
    }

    public int passes(int page, int node) {
        pageAt(page);
        Item item = nodeAt(skeleton, node);
        Walked walked = walkOf(page);
        return walked == null || item.kind != 'R' ? -1 : walked.passed.getOrDefault(item, 0);
    }

    private List<Integer> values(int page, Item field) {
        List<Integer> values = new ArrayList<>();
        Walked walked = walkOf(page);
        for (int i = 0; walked != null && i < walked.takers.size(); i++) {
            if (walked.takers.get(i) == field) {
                values.add(pages.get(page).tokens.get(i));
            }
        }
        return values;
    }

    public int value(int page, int node, int k) {
        pageAt(page);
        Item item = nodeAt(skeleton, node);
        List<Integer> values = values(page, item);
        return item.kind != 'F' || k < 0 || k >= values.size() ? -1 : values.get(k);
    }

    public int taker(int page, int k) {
        token(page, k);
        Walked walked = walkOf(page);
        return walked == null ? -1 : nodes(skeleton).indexOf(walked.takers.get(k));
    }

    public int unlike(int node) {
        Item item = nodeAt(skeleton, node);
        Set<Integer> words = new HashSet<>();
        for (int page = 0; page < pages.size(); page++) {
            words.addAll(values(page, item));
        }
        return item.kind == 'F' ? words.size() : -1;
    }

    public int would(int page, int what) {
        Page it = pageAt(page);
        argument(what >= 0 && what <= 2);
        Laid laid = laidOn(skeleton, it);
        return new int[] {laid.cost, size(laid.row), nodes(laid.row).size()}[what];
    }

    public int distance(int page, int other) {
        return layRow(otherOf(page, other).folded, pages.get(page).folded).cost;
    }

    private Page otherOf(int page, int other) {
        pageAt(page);
        return pageAt(other);
    }

    public int nearest(int page) {
        pageAt(page);
        int best = -1;
        for (int other = pages.size() - 1; other >= 0; other--) {
            if (other != page && (best < 0 || distance(page, other) <= distance(page, best))) {
                best = other;
            }
        }
        return best;
    }

    private static void permute(List<Integer> before, List<Integer> left, List<List<Integer>> all) {
        if (left.isEmpty()) {
            all.add(before);
        }
        for (Integer next : left) {
            List<Integer> longer = new ArrayList<>(before);
            longer.add(next);
            List<Integer> rest = new ArrayList<>(left);
            rest.remove(next);
            permute(longer, rest, all);
        }
    }

    private static String text(List<Item> row) {
        StringBuilder text = new StringBuilder();
        for (Item item : row) {
            text.append(item.kind).append(item.token).append('(').append(text(item.kids)).append(')');
        }
        return text.toString();
    }

    public int orders(int what) {
        argument(what >= 0 && what <= 3);
        state(pages.size() >= 1 && pages.size() <= 4);
        return ordersKept.computeIfAbsent(pages.size(), k -> allOrders())[what];
    }

    private int[] allOrders() {
        List<Integer> numbers = new ArrayList<>();
        for (int i = 0; i < pages.size(); i++) {
            numbers.add(i);
        }
        List<List<Integer>> all = new ArrayList<>();
        permute(new ArrayList<>(), numbers, all);
        List<String> ends = new ArrayList<>();
        List<Integer> totals = new ArrayList<>();
        for (List<Integer> order : all) {
            List<Item> row = new ArrayList<>();
            int total = 0;
            for (int page : order) {
                Laid laid = laidOn(row, pages.get(page));
                row = laid.row;
                total += laid.cost;
            }
            ends.add(text(row));
            totals.add(total);
        }
        int least = java.util.Collections.min(totals);
        int first = totals.indexOf(least);
        return new int[] {new HashSet<>(ends).size(), least, first,
            java.util.Collections.frequency(ends, ends.get(first))};
    }

    private static int shortestOf(List<Item> row) {
        int sum = 0;
        for (Item item : row) {
            sum += item.kind == 'O' ? 0 : item.kind == 'R' ? shortestOf(item.kids) : 1;
        }
        return sum;
    }

    public int shortest() {
        return shortestOf(skeleton);
    }

    private static int firmIn(List<Item> row, String barred) {
        int count = 0;
        for (Item item : row) {
            count += item.kind == 'T' || item.kind == 'W' ? 1 : 0;
            count += barred.indexOf(item.kind) < 0 ? firmIn(item.kids, barred) : 0;
        }
        return count;
    }

    public int firm(int what) {
        argument(what >= 0 && what <= 2);
        return firmIn(skeleton, new String[] {"O", "R", "OR"}[what]);
    }

    public boolean alike(int node, int other) {
        Item a = nodeAt(skeleton, node);
        return alike(a, nodeAt(skeleton, other));
    }

    public int cuts(int page) {
        Page it = pageAt(page);
        int least = new Through(it.tokens).cutRow(skeleton, 0, 0, it.tokens.size());
        return least >= 100000 ? -1 : least;
    }

    private static BigInteger[] product(BigInteger[] a, BigInteger[] b) {
        BigInteger[] c = new BigInteger[61];
        java.util.Arrays.fill(c, BigInteger.ZERO);
        for (int i = 0; i <= 60; i++) {
            for (int j = 0; i + j <= 60; j++) {
                c[i + j] = c[i + j].add(a[i].multiply(b[j]));
            }
        }
        return c;
    }

    private static BigInteger[] one(int at) {
        BigInteger[] a = new BigInteger[61];
        java.util.Arrays.fill(a, BigInteger.ZERO);
        a[at] = BigInteger.ONE;
        return a;
    }

    // By how many tokens, in how many ways.
    private static BigInteger[] series(List<Item> row) {
        BigInteger[] all = one(0);
        for (Item item : row) {
            BigInteger[] each = item.inner() ? series(item.kids) : one(1);
            if (item.kind == 'O') {
                each[0] = each[0].add(BigInteger.ONE);
            }
            if (item.kind == 'R') {
                BigInteger[] sum = each.clone();
                BigInteger[] power = each;
                for (int pass = 2; pass <= 60; pass++) {
                    power = product(power, each);
                    for (int i = 0; i <= 60; i++) {
                        sum[i] = sum[i].add(power[i]);
                    }
                }
                each = sum;
            }
            all = product(all, each);
        }
        return all;
    }

    public int derived(int tokens) {
        argument(tokens >= 0 && tokens <= 60);
        return series(skeleton)[tokens].min(BigInteger.valueOf(1000000000)).intValue();
    }

    public int common(int page, int other) {
        List<Integer> b = otherOf(page, other).tokens;
        List<Integer> a = pages.get(page).tokens;
        int[][] longest = new int[a.size() + 1][b.size() + 1];
        for (int i = a.size() - 1; i >= 0; i--) {
            for (int j = b.size() - 1; j >= 0; j--) {
                longest[i][j] = a.get(i).equals(b.get(j)) ? 1 + longest[i + 1][j + 1]
                    : Math.max(longest[i + 1][j], longest[i][j + 1]);
            }
        }
        return longest[0][0];
    }

    public boolean similar(int page, int other) {
        Page b = otherOf(page, other);
        return alike(pages.get(page).folded, b.folded);
    }

    public int step(int page, int k, int what) {
        Page it = pageAt(page);
        argument(what >= 0 && what <= 2);
        return k < 0 || k >= it.steps.size() ? -1 : it.steps.get(k)[what];
    }

    public int users(int node) {
        Item item = nodeAt(skeleton, node);
        int bits = 0;
        for (int page = 0; page < pages.size(); page++) {
            Walked walked = walkOf(page);
            bits |= walked != null && walked.there.getOrDefault(item, 0) > 0 ? 1 << page : 0;
        }
        return bits;
    }

    public int greatest(int node) {
        Item item = nodeAt(skeleton, node);
        int most = -1;
        for (int page = 0; page < pages.size(); page++) {
            Walked walked = walkOf(page);
            most = walked == null ? most : Math.max(most, walked.there.getOrDefault(item, 0));
        }
        return most;
    }

    public int fitting() {
        int bits = 0;
        for (int page = 0; page < pages.size(); page++) {
            bits |= waysThrough(skeleton, pages.get(page)).signum() > 0 ? 1 << page : 0;
        }
        return bits;
    }

    public int status(int what) {
        return what >= 0 && what <= 2 ? refused[what] : -1;
    }
}
