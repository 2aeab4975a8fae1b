import java.util.Arrays;
import java.util.NoSuchElementException;

/** The common skeleton of pages that were made by one hidden template. */
public final class PageSkeleton {
    public static final int NONE = -1;

    private static final int MOST_BYTES = 400;
    private static final int FED_AT_ONCE = 20;
    private static final int MOST_PAGES = 8;
    private static final int MOST_TOKENS = 60;
    private static final int MOST_UNLIKE = 200;
    private static final int MOST_LETTERS = 6;
    private static final int MOST_SIZE = 160;
    private static final int MOST_BACK = 16;
    private static final int MOST_ORDERED = 4;
    private static final int MOST_ORDERS = 24;
    private static final int MOST_WAYS = 1000000000;

    // A row is told as a line of codes: a tag is its token's number, a word is WORD more than that, an option
    // and a repeat begin with their codes and end with CLOSE. Two rows are ALIKE if their lines are, sign by sign.
    private static final int WORD = 256;
    private static final int FIELD = 512;
    private static final int OPTION = 513;
    private static final int REPEAT = 514;
    private static final int CLOSE = 515;
    // Stands for a token that everything takes.
    private static final int ANY = 516;

    // Folding lengthens a line by 1 only where it makes two single tokens a repeat: 90 is the most for a page.
    private static final int PAGE_LINE = 96;
    // Nothing takes more room than a tag that is alone in a repeat that is alone in an option: five signs. A skeleton
    // has up to 160 tags, words and fields, and a page that is tried on it 60 more; four pages have 240 together, but
    // then at most half of them can be alone in repeats.
    private static final int LINE = 1100;
    // No loop comes near it: it is the end that such loops show whose true end lies in what they work on.
    private static final int MOST_TURNS = 1000000;

    private static final int OPENS = 0;
    private static final int CLOSES = 1;
    private static final int STANDS = 2;

    // What is asked as a row is gone through: in how many ways, with how few tokens cut, how far at most.
    private static final int COUNTED = 0;
    private static final int CUT = 1;
    private static final int FAR = 2;
    private static final int NEVER = 1000000;

    private final Texts texts = new Texts();
    private final Leaf[] leaves = new Leaf[MOST_PAGES];
    private int leafCount = 0;
    private final Row skeleton = new Row(LINE);
    // What would come of a call, ahead of its being kept.
    private final Row trial = new Row(LINE);
    private int costs = 0;
    // Another one for each state of the skeleton: walks kept for an earlier one are not used again.
    private int stamp = 0;
    private final Past past = new Past();
    private final Tidier tidier = new Tidier();
    private final Layer layer = new Layer();
    private final Walker walker = new Walker();
    private final Orders sorted = new Orders();
    private final int[] whatever = new int[MOST_TOKENS];
    private final int[] seen = new int[MOST_UNLIKE];
    private final int[] refused = new int[3];

    public PageSkeleton() {
        for (int i = 0; i < MOST_PAGES; i++) {
            leaves[i] = new Leaf();
        }
        Arrays.fill(whatever, ANY);
    }

    public int feed(int a, int b, int c, int d, int e) {
        if (texts.bytes + FED_AT_ONCE > MOST_BYTES) {
            return NONE;
        }
        texts.feedNumber(a);
        texts.feedNumber(b);
        texts.feedNumber(c);
        texts.feedNumber(d);
        texts.feedNumber(e);
        return texts.bytes;
    }

    public int page(int n) throws IllegalArgumentException, IllegalStateException {
        needArgument(n >= 0 && n <= texts.bytes);
        needState(leafCount < MOST_PAGES);
        int wrong = texts.readText(n);
        texts.bytes = 0;
        if (wrong != 0) {
            return wrong - 10;
        }
        leaves[leafCount].become(texts.found, texts.foundCount, texts);
        leaves[leafCount].foldAll(tidier);
        leafCount++;
        return leafCount - 1;
    }

    public int fault() {
        return texts.faultPlace;
    }

    public int lay(int page) throws NoSuchElementException, IllegalStateException {
        needPage(page);
        int cost = tryToLay(page);
        needState(trial.size() <= MOST_SIZE && !trial.overfull);
        past.save(skeleton, costs);
        skeleton.take(trial);
        costs += cost;
        stamp++;
        return cost;
    }

    public int tidy() {
        int done = tryToTidy();
        if (done > 0) {
            past.save(skeleton, costs);
            skeleton.take(trial);
            stamp++;
        }
        return done;
    }

    public int tidied(int what) throws IllegalArgumentException {
        needArgument(what >= 0 && what <= 3);
        int done = tryToTidy();
        switch (what) {
            case 0:
                return done;
            case 1:
                return trial.size();
            case 2:
                return trial.nodes;
            default:
                return countFitting(trial);
        }
    }

    public int undo() {
        if (past.count == 0) {
            return NONE;
        }
        costs = past.restore(skeleton);
        stamp++;
        return skeleton.size();
    }

    public int clear() {
        int size = skeleton.size();
        skeleton.empty();
        skeleton.seal();
        past.count = 0;
        // The costs stay: what was laid is cleared, but not taken back.
        stamp++;
        return size;
    }

    public int told(int what) throws IllegalArgumentException {
        switch (what) {
            case 0:
                return leafCount;
            case 1:
                return texts.tokens;
            case 2:
                return skeleton.nodes;
            case 3:
                return skeleton.size();
            case 4:
                return skeleton.countOf(FIELD);
            case 5:
                return skeleton.countOf(OPTION);
            case 6:
                return skeleton.countOf(REPEAT);
            case 7:
                return past.count;
            case 8:
                return costs;
            case 9:
                return texts.bytes;
            default:
                needArgument(false);
                return NONE;
        }
    }

    public int pageOf(int page, int what) throws NoSuchElementException, IllegalArgumentException {
        needPage(page);
        Leaf leaf = leaves[page];
        switch (what) {
            case 0:
                return leaf.count;
            case 1:
                return leaf.folded.nodes;
            case 2:
                return leaf.folded.size();
            case 3:
                return leaf.folded.countOf(REPEAT);
            case 4:
                return leaf.folded.deepestRepeat();
            default:
                needArgument(false);
                return NONE;
        }
    }

    public int token(int page, int k) throws NoSuchElementException {
        needPlace(page, k);
        return leaves[page].tokens[k];
    }

    public int tokenOf(int token, int what) throws NoSuchElementException, IllegalArgumentException {
        needElement(token >= 0 && token < texts.tokens);
        needArgument(what >= 0 && what <= 8);
        switch (what) {
            case 0:
                return texts.sortOf(token);
            case 1:
                return texts.lettersOf(token);
            case 8:
                return pagesWith(token);
            default:
                return texts.letterOf(token, what - 2);
        }
    }

    public int node(int node, int what) throws NoSuchElementException, IllegalArgumentException {
        needNode(skeleton, node);
        needArgument(what >= 0 && what <= 5);
        return skeleton.tellNode(node, what);
    }

    public int pageNode(int page, int node, int what) throws NoSuchElementException, IllegalArgumentException {
        needPage(page);
        needNode(leaves[page].folded, node);
        needArgument(what >= 0 && what <= 5);
        return leaves[page].folded.tellNode(node, what);
    }

    public boolean fits(int page) throws NoSuchElementException {
        needPage(page);
        return walkOf(page).isThrough();
    }

    public int reach(int page) throws NoSuchElementException {
        needPage(page);
        return walker.goThrough(skeleton, leaves[page].codes, leaves[page].count, FAR);
    }

    public int ways(int page) throws NoSuchElementException {
        needPage(page);
        return walkOf(page).wayCount;
    }

    public int times(int page, int node) throws NoSuchElementException {
        needPage(page);
        needNode(skeleton, node);
        Walk walk = walkOf(page);
        return walk.isThrough() ? walk.there[node] : NONE;
    }

    public int passes(int page, int node) throws NoSuchElementException {
        needPage(page);
        needNode(skeleton, node);
        Walk walk = walkOf(page);
        return walk.isThrough() && skeleton.codeOf(node) == REPEAT ? walk.passed[node] : NONE;
    }

    public int value(int page, int node, int k) throws NoSuchElementException {
        needPage(page);
        needNode(skeleton, node);
        Walk walk = walkOf(page);
        if (!walk.isThrough() || skeleton.codeOf(node) != FIELD) {
            return NONE;
        }
        int before = 0;
        for (int i = 0; i < leaves[page].count; i++) {
            if (walk.takers[i] == node) {
                if (before == k) {
                    return leaves[page].tokens[i];
                }
                before++;
            }
        }
        return NONE;
    }

    public int taker(int page, int k) throws NoSuchElementException {
        needPlace(page, k);
        Walk walk = walkOf(page);
        return walk.isThrough() ? walk.takers[k] : NONE;
    }

    public int unlike(int node) throws NoSuchElementException {
        needNode(skeleton, node);
        if (skeleton.codeOf(node) != FIELD) {
            return NONE;
        }
        Arrays.fill(seen, 0);
        int words = 0;
        for (int page = 0; page < leafCount; page++) {
            words += seeWords(page, node);
        }
        return words;
    }

    public int would(int page, int what) throws NoSuchElementException, IllegalArgumentException {
        needPage(page);
        needArgument(what >= 0 && what <= 2);
        int cost = tryToLay(page);
        switch (what) {
            case 0:
                return cost;
            case 1:
                return trial.size();
            default:
                return trial.nodes;
        }
    }

    public int distance(int page, int other) throws NoSuchElementException {
        needPage(page);
        needPage(other);
        return costBetween(page, other);
    }

    public int nearest(int page) throws NoSuchElementException {
        needPage(page);
        int best = NONE;
        int least = NEVER;
        for (int other = 0; other < leafCount; other++) {
            if (other != page) {
                int cost = costBetween(page, other);
                if (cost < least) {
                    least = cost;
                    best = other;
                }
            }
        }
        return best;
    }

    public int orders(int what) throws IllegalArgumentException, IllegalStateException {
        needArgument(what >= 0 && what <= 3);
        needState(leafCount >= 1 && leafCount <= MOST_ORDERED);
        // Pages never change, so that what was found stands until there is one more.
        if (sorted.pageCount != leafCount) {
            sorted.goThroughAll(leaves, leafCount, layer);
        }
        return sorted.answers[what];
    }

    public int shortest() {
        return skeleton.countLeaves(true, false, true);
    }

    public int firm(int what) throws IllegalArgumentException {
        needArgument(what >= 0 && what <= 2);
        return skeleton.countLeaves(what != 1, what != 0, false);
    }

    public boolean alike(int node, int other) throws NoSuchElementException {
        needNode(skeleton, node);
        needNode(skeleton, other);
        int a = skeleton.place[node];
        int b = skeleton.place[other];
        int length = skeleton.after(a) - a;
        return length == skeleton.after(b) - b && skeleton.matches(a, skeleton, b, length);
    }

    public int cuts(int page) throws NoSuchElementException {
        needPage(page);
        int least = walker.goThrough(skeleton, leaves[page].codes, leaves[page].count, CUT);
        return least >= NEVER ? NONE : least;
    }

    public int derived(int tokens) throws IllegalArgumentException {
        needArgument(tokens >= 0 && tokens <= MOST_TOKENS);
        return walker.goThrough(skeleton, whatever, tokens, COUNTED);
    }

    public int common(int page, int other) throws NoSuchElementException {
        needPage(page);
        needPage(other);
        return leaves[page].longestCommon(leaves[other]);
    }

    public boolean similar(int page, int other) throws NoSuchElementException {
        needPage(page);
        needPage(other);
        Row a = leaves[page].folded;
        Row b = leaves[other].folded;
        return a.length == b.length && a.matches(0, b, 0, a.length);
    }

    public int step(int page, int k, int what) throws NoSuchElementException, IllegalArgumentException {
        needPage(page);
        needArgument(what >= 0 && what <= 2);
        return k >= 0 && k < leaves[page].stepCount ? leaves[page].steps[k * 3 + what] : NONE;
    }

    public int users(int node) throws NoSuchElementException {
        needNode(skeleton, node);
        int bits = 0;
        for (int page = 0; page < leafCount; page++) {
            Walk walk = walkOf(page);
            if (walk.isThrough() && walk.there[node] > 0) {
                bits |= 1 << page;
            }
        }
        return bits;
    }

    public int greatest(int node) throws NoSuchElementException {
        needNode(skeleton, node);
        int most = NONE;
        for (int page = 0; page < leafCount; page++) {
            Walk walk = walkOf(page);
            if (walk.isThrough()) {
                most = Math.max(most, walk.there[node]);
            }
        }
        return most;
    }

    public int fitting() {
        int bits = 0;
        for (int page = 0; page < leafCount; page++) {
            if (walkOf(page).isThrough()) {
                bits |= 1 << page;
            }
        }
        return bits;
    }

    public int status(int what) {
        return what >= 0 && what < refused.length ? refused[what] : NONE;
    }

    private void needElement(boolean there) {
        if (!there) {
            refused[0]++;
            throw new NoSuchElementException();
        }
    }

    private void needArgument(boolean right) {
        if (!right) {
            refused[1]++;
            throw new IllegalArgumentException();
        }
    }

    private void needState(boolean right) {
        if (!right) {
            refused[2]++;
            throw new IllegalStateException();
        }
    }

    private void needPage(int page) {
        needElement(page >= 0 && page < leafCount);
    }

    private void needPlace(int page, int k) {
        needPage(page);
        needElement(k >= 0 && k < leaves[page].count);
    }

    private void needNode(Row row, int node) {
        needElement(node >= 0 && node < row.nodes);
    }

    /** The trial row is what would come of it: the cost. */
    private int tryToLay(int page) {
        Row folded = leaves[page].folded;
        if (skeleton.length == 0) {
            trial.take(folded);
            return 0;
        }
        int cost = layer.leastCost(skeleton, folded);
        layer.build(skeleton, folded, trial);
        return cost;
    }

    /** The trial row is what would come of it: how many times anything was done. */
    private int tryToTidy() {
        trial.take(skeleton);
        return tidier.tidyAll(trial);
    }

    private int costBetween(int page, int other) {
        return layer.leastCost(leaves[other].folded, leaves[page].folded);
    }

    private Walk walkOf(int page) {
        Walk walk = leaves[page].walk;
        if (walk.stamp != stamp) {
            walk.stamp = stamp;
            walker.walk(skeleton, leaves[page].codes, leaves[page].count, walk);
        }
        return walk;
    }

    private int countFitting(Row row) {
        int fit = 0;
        for (int page = 0; page < leafCount; page++) {
            if (walker.goThrough(row, leaves[page].codes, leaves[page].count, COUNTED) > 0) {
                fit++;
            }
        }
        return fit;
    }

    private int pagesWith(int token) {
        int with = 0;
        for (int page = 0; page < leafCount; page++) {
            if (leaves[page].has(token)) {
                with++;
            }
        }
        return with;
    }

    /** How many words that were not seen yet a field takes in the walk of a page. */
    private int seeWords(int page, int field) {
        Walk walk = walkOf(page);
        int fresh = 0;
        if (walk.isThrough()) {
            for (int i = 0; i < leaves[page].count; i++) {
                int word = leaves[page].tokens[i];
                if (walk.takers[i] == field && seen[word] == 0) {
                    seen[word] = 1;
                    fresh++;
                }
            }
        }
        return fresh;
    }

    private static boolean isTag(int code) {
        return code >= 0 && code < WORD;
    }

    private static boolean isWord(int code) {
        return code >= WORD && code < FIELD;
    }

    private static boolean isLeaf(int code) {
        return code >= 0 && code <= FIELD;
    }

    private static boolean isOpen(int code) {
        return code == OPTION || code == REPEAT;
    }

    private static boolean areAlike(int a, int b) {
        return a == b || a >= WORD && a <= FIELD && b >= WORD && b <= FIELD;
    }

    private static int fused(int a, int b) {
        return a == b ? a : FIELD;
    }

    private static int costOfFusing(int a, int b) {
        return a != b && a >= WORD && a < FIELD && b >= WORD && b < FIELD ? 1 : 0;
    }

    /** The tape, and the tokens that stand in the pages read from it. */
    private static final class Texts {
        private final int[] tape = new int[MOST_BYTES];
        int bytes = 0;
        // The name's letters as digits to the base 27, times 3, and the sort.
        private final int[] keys = new int[MOST_UNLIKE];
        int tokens = 0;
        final int[] found = new int[MOST_TOKENS];
        int foundCount = 0;
        int faultPlace = NONE;
        private int at = 0;

        void feedNumber(int number) {
            for (int shift = 24; shift >= 0; shift -= 8) {
                if (bytes < tape.length) {
                    tape[bytes] = number >>> shift & 255;
                    bytes++;
                }
            }
        }

        /** The sort of the fault of the first n bytes, 0 without. */
        int readText(int n) {
            int known = tokens;
            int wrong = 0;
            at = 0;
            foundCount = 0;
            faultPlace = NONE;
            for (int turn = 0; turn < n && at < n && wrong == 0; turn++) {
                wrong = readNext(n);
            }
            if (wrong == 0 && foundCount == 0) {
                wrong = faulty(1, n);
            }
            if (wrong != 0) {
                tokens = known;
            }
            return wrong;
        }

        private int readNext(int n) {
            if (tape[at] == ' ') {
                at++;
                return 0;
            }
            int begin = at;
            int sort = readSort(n);
            int name = readName(n);
            if (name == 0) {
                return faulty(1, at);
            }
            if (sort == STANDS) {
                if (letterAt(n) != 0) {
                    return faulty(1, at);
                }
            } else {
                if (at >= n || tape[at] != '>') {
                    return faulty(1, at);
                }
                at++;
            }
            return keep(name * 3 + sort, begin);
        }

        private int readSort(int n) {
            if (tape[at] != '<') {
                return STANDS;
            }
            at++;
            if (at < n && tape[at] == '/') {
                at++;
                return CLOSES;
            }
            return OPENS;
        }

        private int readName(int n) {
            int name = 0;
            for (int i = 0; i < MOST_LETTERS && letterAt(n) != 0; i++) {
                name = name * 27 + letterAt(n);
                at++;
            }
            return name;
        }

        /** 1 to 26 for the small letter that is next, 0 for anything else. */
        private int letterAt(int n) {
            return at < n && tape[at] >= 'a' && tape[at] <= 'z' ? tape[at] - 'a' + 1 : 0;
        }

        private int keep(int key, int begin) {
            if (foundCount >= MOST_TOKENS) {
                return faulty(2, begin);
            }
            int token = 0;
            while (token < tokens && keys[token] != key) {
                token++;
            }
            if (token >= MOST_UNLIKE) {
                return faulty(2, begin);
            }
            if (token == tokens) {
                keys[token] = key;
                tokens++;
            }
            found[foundCount] = token;
            foundCount++;
            return 0;
        }

        private int faulty(int sort, int where) {
            faultPlace = where;
            return sort;
        }

        int sortOf(int token) {
            return keys[token] % 3;
        }

        int lettersOf(int token) {
            int letters = 0;
            int name = keys[token] / 3;
            while (letters < MOST_LETTERS && name > 0) {
                name /= 27;
                letters++;
            }
            return letters;
        }

        int letterOf(int token, int k) {
            int name = keys[token] / 3;
            int behind = lettersOf(token) - 1 - k;
            for (int i = 0; i < behind; i++) {
                name /= 27;
            }
            return behind < 0 ? NONE : name % 27 - 1;
        }
    }

    /** A page, and what it is folded. */
    private static final class Leaf {
        final int[] tokens = new int[MOST_TOKENS];
        final int[] codes = new int[MOST_TOKENS];
        int count = 0;
        final Row folded = new Row(PAGE_LINE);
        final int[] steps = new int[MOST_TOKENS * 3];
        int stepCount = 0;
        final Walk walk = new Walk();
        private final int[] longest = new int[MOST_TOKENS + 1];

        void become(int[] found, int foundCount, Texts texts) {
            folded.empty();
            count = Math.min(foundCount, MOST_TOKENS);
            for (int i = 0; i < count; i++) {
                tokens[i] = found[i];
                codes[i] = texts.sortOf(found[i]) == STANDS ? WORD + found[i] : found[i];
                folded.put(codes[i]);
            }
            folded.seal();
        }

        void foldAll(Tidier tidier) {
            stepCount = 0;
            // Each time there is at least one item less.
            for (int turn = 0; turn < MOST_TOKENS && tidier.foldOnce(folded, 0, folded.length); turn++) {
                steps[stepCount * 3] = tidier.foldedLength;
                steps[stepCount * 3 + 1] = tidier.foldedPlace;
                steps[stepCount * 3 + 2] = tidier.foldedTimes;
                stepCount++;
            }
        }

        boolean has(int token) {
            for (int i = 0; i < count; i++) {
                if (tokens[i] == token) {
                    return true;
                }
            }
            return false;
        }

        int longestCommon(Leaf other) {
            Arrays.fill(longest, 0);
            for (int i = 0; i < count; i++) {
                int diagonal = 0;
                for (int j = 0; j < other.count; j++) {
                    int above = longest[j + 1];
                    longest[j + 1] = tokens[i] == other.tokens[j] ? diagonal + 1 : Math.max(above, longest[j]);
                    diagonal = above;
                }
            }
            return longest[other.count];
        }
    }

    /** A row of items, told as a line of codes. */
    private static final class Row {
        final int[] code;
        // Of a place where an option or a repeat begins: where it ends, and the other way round.
        final int[] mate;
        // How many tags, words and fields stand ahead of a place.
        final int[] ahead;
        // The node at a place, and the place of a node.
        final int[] number;
        final int[] place;
        int length = 0;
        int nodes = 0;
        boolean overfull = false;

        Row(int most) {
            int room = Math.max(most, 1);
            code = new int[room];
            mate = new int[room];
            ahead = new int[room + 1];
            number = new int[room];
            place = new int[room];
        }

        void empty() {
            length = 0;
            overfull = false;
        }

        void put(int sign) {
            if (length < code.length) {
                code[length] = sign;
                length++;
            } else {
                overfull = true;
            }
        }

        void putRange(Row from, int begin, int end) {
            for (int i = begin; i < end; i++) {
                put(from.code[i]);
            }
        }

        void take(Row other) {
            load(other.code, other.length);
        }

        void load(int[] codes, int count) {
            empty();
            for (int i = 0; i < count && i < codes.length; i++) {
                put(codes[i]);
            }
            seal();
        }

        /** To be called when the codes have changed. */
        void seal() {
            // A line that was cut off has no ends to its beginnings, so that nothing of it is kept.
            length = overfull ? 0 : length;
            nodes = 0;
            ahead[0] = 0;
            int open = NONE;
            for (int i = 0; i < length; i++) {
                int sign = code[i];
                ahead[i + 1] = ahead[i] + (isLeaf(sign) ? 1 : 0);
                number[i] = nodes;
                mate[i] = i;
                if (sign == CLOSE) {
                    if (open >= 0) {
                        int outer = mate[open];
                        mate[i] = open;
                        mate[open] = i;
                        open = outer;
                    }
                } else {
                    place[nodes] = i;
                    nodes++;
                    if (isOpen(sign)) {
                        // Until its end is known it holds the one round it.
                        mate[i] = open;
                        open = i;
                    }
                }
            }
        }

        int size() {
            return ahead[length];
        }

        int sizeAt(int at) {
            return ahead[after(at)] - ahead[at];
        }

        /** Where the next item begins, or the row ends. */
        int after(int at) {
            return mate[at] + 1;
        }

        boolean endsAt(int at) {
            return at >= length || code[at] == CLOSE;
        }

        int codeOf(int node) {
            return code[place[node]];
        }

        int countOf(int sign) {
            int count = 0;
            for (int i = 0; i < length; i++) {
                if (code[i] == sign) {
                    count++;
                }
            }
            return count;
        }

        /** Whether so many signs from a place on are alike to those of a row from another place on. */
        boolean matches(int at, Row other, int from, int signs) {
            if (at < 0 || from < 0 || at + signs > length || from + signs > other.length) {
                return false;
            }
            for (int i = 0; i < signs; i++) {
                if (!areAlike(code[at + i], other.code[from + i])) {
                    return false;
                }
            }
            return true;
        }

        int costOfRange(int at, Row other, int from, int signs) {
            int cost = 0;
            for (int i = 0; i < signs; i++) {
                cost += costOfFusing(code[at + i], other.code[from + i]);
            }
            return cost;
        }

        void fuseInto(int at, int from, int signs) {
            for (int i = 0; i < signs; i++) {
                code[at + i] = fused(code[at + i], code[from + i]);
            }
        }

        void remove(int begin, int end) {
            System.arraycopy(code, end, code, begin, length - end);
            length -= end - begin;
        }

        void insert(int at, int sign) {
            if (length < code.length) {
                System.arraycopy(code, at, code, at + 1, length - at);
                code[at] = sign;
                length++;
            } else {
                overfull = true;
            }
        }

        int deepestRepeat() {
            int deep = 0;
            int deepest = 0;
            for (int i = 0; i < length; i++) {
                if (code[i] == REPEAT) {
                    deep++;
                    deepest = Math.max(deepest, deep);
                } else if (code[i] == CLOSE && code[mate[i]] == REPEAT) {
                    deep--;
                }
            }
            return deepest;
        }

        /** How many tags and words, and fields if asked for, are not in what is ruled out. */
        int countLeaves(boolean inNoOption, boolean inNoRepeat, boolean fields) {
            int count = 0;
            int barred = 0;
            for (int i = 0; i < length; i++) {
                int kind = code[i] == CLOSE ? code[mate[i]] : code[i];
                if (kind == OPTION && inNoOption || kind == REPEAT && inNoRepeat) {
                    barred += code[i] == CLOSE ? -1 : 1;
                } else if (barred == 0 && isLeaf(kind) && (fields || kind != FIELD)) {
                    count++;
                }
            }
            return count;
        }

        int tellNode(int node, int what) {
            int at = place[node];
            switch (what) {
                case 0:
                    return sortAt(at);
                case 1:
                    return isTag(code[at]) ? code[at] : isWord(code[at]) ? code[at] - WORD : NONE;
                case 2:
                    return depthOf(at);
                case 3:
                    return parentOf(at);
                case 4:
                    return sizeAt(at);
                default:
                    return itemsIn(at);
            }
        }

        private int sortAt(int at) {
            if (isTag(code[at])) {
                return 0;
            }
            return isWord(code[at]) ? 1 : code[at] - FIELD + 2;
        }

        private int depthOf(int at) {
            int depth = 0;
            for (int i = 0; i < at; i++) {
                if (isOpen(code[i]) && mate[i] > at) {
                    depth++;
                }
            }
            return depth;
        }

        private int parentOf(int at) {
            for (int i = at - 1; i >= 0; i--) {
                if (isOpen(code[i]) && mate[i] > at) {
                    return number[i];
                }
            }
            return NONE;
        }

        private int itemsIn(int at) {
            int items = 0;
            if (isOpen(code[at])) {
                for (int i = at + 1; i < mate[at]; i = Math.max(i + 1, after(i))) {
                    items++;
                }
            }
            return items;
        }
    }

    /** Folds rows and tidies them, in place. */
    private static final class Tidier {
        private final int[] begin = new int[LINE + 1];
        // How many tags and repeats are among the items ahead of one.
        private final int[] firmAhead = new int[LINE + 1];
        private int items = 0;
        int foldedLength = 0;
        int foldedPlace = 0;
        int foldedTimes = 0;

        int tidyAll(Row row) {
            int done = 0;
            int at = 0;
            // Ends come in the order in which rows are to be tidied: what is inside first, from the left.
            for (int turn = 0; turn < MOST_TURNS && at < row.length; turn++) {
                if (row.code[at] == CLOSE) {
                    int open = row.mate[at];
                    done += tidyRange(row, open + 1, at);
                    at = row.mate[open] + 1;
                } else {
                    at++;
                }
            }
            return done + tidyRange(row, 0, row.length);
        }

        private int tidyRange(Row row, int from, int to) {
            int behind = row.length - to;
            int done = 0;
            boolean more = true;
            for (int turn = 0; turn < MOST_TURNS && more; turn++) {
                int end = row.length - behind;
                more = joinTwins(row, from, end) || joinAhead(row, from, end) || joinBehind(row, from, end)
                    || foldOnce(row, from, end);
                done += more ? 1 : 0;
            }
            return done;
        }

        private boolean joinTwins(Row row, int from, int to) {
            for (int i = from; i < to; i = Math.max(i + 1, row.after(i))) {
                int next = row.after(i);
                if (next < to && row.code[i] == REPEAT && row.code[next] == REPEAT) {
                    int signs = next - i;
                    if (signs == row.after(next) - next && row.matches(i, row, next, signs)) {
                        return join(row, i, next, signs);
                    }
                }
            }
            return false;
        }

        private boolean joinAhead(Row row, int from, int to) {
            for (int i = from; i < to; i = Math.max(i + 1, row.after(i))) {
                if (row.code[i] == REPEAT) {
                    int signs = row.mate[i] - i - 1;
                    if (i - signs >= from && row.matches(i - signs, row, i + 1, signs)) {
                        return join(row, i + 1, i - signs, signs);
                    }
                }
            }
            return false;
        }

        private boolean joinBehind(Row row, int from, int to) {
            for (int i = from; i < to; i = Math.max(i + 1, row.after(i))) {
                if (row.code[i] == REPEAT) {
                    int signs = row.mate[i] - i - 1;
                    int next = row.mate[i] + 1;
                    if (next + signs <= to && row.matches(i + 1, row, next, signs)) {
                        return join(row, i + 1, next, signs);
                    }
                }
            }
            return false;
        }

        private boolean join(Row row, int into, int from, int signs) {
            row.fuseInto(into, from, signs);
            row.remove(from, from + signs);
            row.seal();
            return true;
        }

        boolean foldOnce(Row row, int from, int to) {
            findItems(row, from, to);
            for (int size = 1; size * 2 <= items; size++) {
                for (int first = 0; first + size * 2 <= items; first++) {
                    if (firmAhead[first + size] > firmAhead[first]) {
                        int at = begin[first];
                        int signs = begin[first + size] - at;
                        if (at + signs * 2 <= to && row.matches(at, row, at + signs, signs)) {
                            foldedLength = size;
                            foldedPlace = first;
                            foldedTimes = foldAt(row, at, signs, to);
                            return true;
                        }
                    }
                }
            }
            return false;
        }

        private void findItems(Row row, int from, int to) {
            items = 0;
            firmAhead[0] = 0;
            for (int i = from; i < to && items < LINE; i = Math.max(i + 1, row.after(i))) {
                boolean firm = isTag(row.code[i]) || row.code[i] == REPEAT;
                begin[items] = i;
                firmAhead[items + 1] = firmAhead[items] + (firm ? 1 : 0);
                items++;
            }
            begin[items] = to;
        }

        /** How many there were. */
        private int foldAt(Row row, int at, int signs, int to) {
            int count = 1;
            int next = at + signs;
            for (int turn = at; turn < to && next + signs <= to && row.matches(at, row, next, signs); turn++) {
                row.fuseInto(at, next, signs);
                next += signs;
                count++;
            }
            row.remove(at + signs, next);
            row.insert(at + signs, CLOSE);
            row.insert(at, REPEAT);
            row.seal();
            return count;
        }
    }

    /** Lays a folded page against a row. */
    private static final class Layer {
        // The cost from a place of the row and one of the page on, the way that is gone there, and whether
        // options alone come of it: cost * 16 + way * 2 + 1 or 0, so that the least number is the way to go.
        private final int[] cell = new int[(LINE + 1) * (PAGE_LINE + 1)];
        private static final int BARRED = 1 << 28;
        // How many repeats are round a place; NONE in options, into which nothing is laid.
        private final int[] levelOfRow = new int[LINE + 1];
        private final int[] levelOfPage = new int[LINE + 1];
        private int stride = 1;
        private int atRow = 0;
        private int atPage = 0;
        // 4 or 5 while an option of items left out that way is open.
        private int group = 0;

        int leastCost(Row row, Row page) {
            stride = page.length + 1;
            findLevels(row, levelOfRow);
            findLevels(page, levelOfPage);
            if ((row.length + 1) * stride > cell.length) {
                return 0;
            }
            // What is in repeats stands behind their beginnings, so that it is known when it is needed.
            for (int i = row.length; i >= 0; i--) {
                if (levelOfRow[i] >= 0) {
                    for (int j = page.length; j >= 0; j--) {
                        if (levelOfPage[j] == levelOfRow[i]) {
                            cell[i * stride + j] = best(row, page, i, j);
                        }
                    }
                }
            }
            return cell[0] >> 4;
        }

        private void findLevels(Row row, int[] level) {
            int repeats = 0;
            int options = 0;
            for (int i = 0; i < row.length; i++) {
                level[i] = options == 0 ? repeats : NONE;
                int kind = row.code[i] == CLOSE ? row.code[row.mate[i]] : row.code[i];
                int more = row.code[i] == CLOSE ? -1 : 1;
                repeats += kind == REPEAT ? more : 0;
                options += kind == OPTION ? more : 0;
            }
            level[row.length] = 0;
        }

        private int best(Row row, Row page, int i, int j) {
            boolean rowEnds = row.endsAt(i);
            boolean pageEnds = page.endsAt(j);
            if (rowEnds && pageEnds) {
                return 1;
            }
            int least = BARRED;
            if (!rowEnds && !pageEnds) {
                least = Math.min(both(row, page, i, j), Math.min(intoRow(row, page, i, j), intoPage(row, page, i, j)));
            }
            if (!rowEnds) {
                int cost = row.code[i] == OPTION ? 0 : row.sizeAt(i);
                least = Math.min(least, packed(cost, 4, cell[row.after(i) * stride + j], true));
            }
            if (!pageEnds) {
                least = Math.min(least, packed(page.sizeAt(j), 5, cell[i * stride + page.after(j)], true));
            }
            return least;
        }

        private static int packed(int cost, int way, int rest, boolean option) {
            return (cost + (rest >> 4)) * 16 + way * 2 + (option ? rest & 1 : 0);
        }

        private int both(Row row, Row page, int i, int j) {
            int a = row.code[i];
            int b = page.code[j];
            if (isLeaf(a) && areAlike(a, b)) {
                return packed(costOfFusing(a, b), 1, cell[(i + 1) * stride + j + 1], false);
            }
            if (a == REPEAT && b == REPEAT) {
                int inside = cell[(i + 1) * stride + j + 1];
                if ((inside & 1) == 0) {
                    return packed(inside >> 4, 1, cell[row.after(i) * stride + page.after(j)], false);
                }
            }
            return BARRED;
        }

        private int intoRow(Row row, Row page, int i, int j) {
            if (!isOpen(row.code[i])) {
                return BARRED;
            }
            int signs = row.mate[i] - i - 1;
            if (!row.matches(i + 1, page, j, signs)) {
                return BARRED;
            }
            int cost = row.costOfRange(i + 1, page, j, signs);
            return packed(cost, 2, cell[row.after(i) * stride + j + signs], row.code[i] == OPTION);
        }

        private int intoPage(Row row, Row page, int i, int j) {
            if (page.code[j] != REPEAT) {
                return BARRED;
            }
            int signs = page.mate[j] - j - 1;
            if (!row.matches(i, page, j + 1, signs)) {
                return BARRED;
            }
            int cost = row.costOfRange(i, page, j + 1, signs);
            return packed(cost, 3, cell[(i + signs) * stride + page.after(j)], false);
        }

        /** To be called right behind leastCost of the same two. */
        void build(Row row, Row page, Row out) {
            out.empty();
            atRow = 0;
            atPage = 0;
            group = 0;
            for (int turn = 0; turn < MOST_TURNS && (atRow < row.length || atPage < page.length); turn++) {
                int way = cell[atRow * stride + atPage] >> 1 & 7;
                if (group != 0 && (way != group || way == 4 && row.code[atRow] == OPTION)) {
                    out.put(CLOSE);
                    group = 0;
                }
                if (way == 4 || way == 5) {
                    leaveOut(row, page, way, out);
                } else {
                    fuseNext(row, page, way, out);
                }
            }
            if (group != 0) {
                out.put(CLOSE);
            }
            out.seal();
        }

        private void leaveOut(Row row, Row page, int way, Row out) {
            Row from = way == 4 ? row : page;
            int begin = way == 4 ? atRow : atPage;
            int end = from.after(begin);
            if (group == 0 && from.code[begin] != OPTION) {
                out.put(OPTION);
                group = way;
            }
            out.putRange(from, begin, end);
            if (way == 4) {
                atRow = end;
            } else {
                atPage = end;
            }
        }

        private void fuseNext(Row row, Row page, int way, Row out) {
            if (way == 2) {
                int signs = row.mate[atRow] - atRow - 1;
                putFused(row, atRow + 1, page, atPage, signs, row.code[atRow], out);
                atRow = row.after(atRow);
                atPage += signs;
            } else if (way == 3) {
                int signs = page.mate[atPage] - atPage - 1;
                putFused(row, atRow, page, atPage + 1, signs, REPEAT, out);
                atRow += signs;
                atPage = page.after(atPage);
            } else {
                // Two tokens; or two repeats begin, or both end: what is in them is gone through in between.
                out.put(fused(row.code[atRow], page.code[atPage]));
                atRow++;
                atPage++;
            }
        }

        private static void putFused(Row row, int i, Row page, int j, int signs, int kind, Row out) {
            out.put(kind);
            for (int k = 0; k < signs; k++) {
                out.put(fused(row.code[i + k], page.code[j + k]));
            }
            out.put(CLOSE);
        }
    }

    /** How a page is gone through by the skeleton as it was when the stamp was that. */
    private static final class Walk {
        int stamp = NONE;
        int wayCount = 0;
        final int[] takers = new int[MOST_TOKENS];
        // By nodes.
        final int[] there = new int[LINE];
        final int[] passed = new int[LINE];

        boolean isThrough() {
            return wayCount > 0;
        }
    }

    /** Goes through pages by rows. */
    private static final class Walker {
        // What is asked, from a place of the row on with so many tokens taken; by these first.
        private final int[] answer = new int[(MOST_TOKENS + 1) * (LINE + 1)];
        // The same for going into what is at a place without leaving the row in which it is: a repeat's end
        // needs it of the repeat's beginning, ahead of which the rest is not known.
        private final int[] inward = new int[LINE + 1];

        int goThrough(Row row, int[] codes, int n, int how) {
            int stride = row.length + 1;
            for (int k = n; k >= 0; k--) {
                int base = k * stride;
                answer[base + row.length] = atEnd(k, n, how);
                inward[row.length] = nothing(k, how);
                for (int i = row.length - 1; i >= 0; i--) {
                    goInward(row, i, codes, k, n, how);
                }
                for (int i = row.length - 1; i >= 0; i--) {
                    goOn(row, i, base, how);
                }
            }
            return answer[0];
        }

        private static int atEnd(int k, int n, int how) {
            if (how == COUNTED) {
                return k == n ? 1 : 0;
            }
            return how == CUT ? n - k : k;
        }

        private static int nothing(int k, int how) {
            if (how == COUNTED) {
                return 0;
            }
            return how == CUT ? NEVER : k;
        }

        private static int either(int a, int b, int how) {
            if (how == COUNTED) {
                return Math.min(a + b, MOST_WAYS);
            }
            return how == CUT ? Math.min(a, b) : Math.max(a, b);
        }

        private void goInward(Row row, int i, int[] codes, int k, int n, int how) {
            int sign = row.code[i];
            if (sign == OPTION) {
                inward[i] = either(inward[i + 1], inward[row.mate[i] + 1], how);
            } else if (sign == REPEAT) {
                inward[i] = inward[i + 1];
            } else if (sign == CLOSE) {
                inward[i] = nothing(k, how);
            } else {
                int stride = row.length + 1;
                int from = k * stride + i;
                int got = nothing(k, how);
                if (k < n) {
                    if (takes(sign, codes[k])) {
                        got = answer[from + stride + 1];
                    }
                    if (how == CUT) {
                        got = Math.min(got, answer[from + stride] + 1);
                    }
                }
                answer[from] = got;
                inward[i] = got;
            }
        }

        private static boolean takes(int sign, int code) {
            return sign == code || code == ANY || sign == FIELD && isWord(code);
        }

        private void goOn(Row row, int i, int base, int how) {
            int sign = row.code[i];
            if (isLeaf(sign)) {
                return;
            }
            int next = answer[base + i + 1];
            if (sign == OPTION) {
                next = either(next, answer[base + row.mate[i] + 1], how);
            } else if (sign == CLOSE && row.code[row.mate[i]] == REPEAT) {
                next = either(inward[row.mate[i] + 1], next, how);
            }
            answer[base + i] = next;
        }

        void walk(Row row, int[] codes, int n, Walk walk) {
            walk.wayCount = goThrough(row, codes, n, COUNTED);
            for (int node = 0; node < row.nodes; node++) {
                walk.there[node] = 0;
                walk.passed[node] = 0;
            }
            if (walk.wayCount == 0) {
                return;
            }
            int stride = row.length + 1;
            int at = 0;
            int k = 0;
            for (int turn = 0; turn < MOST_TURNS && at < row.length; turn++) {
                if (isLeaf(row.code[at])) {
                    if (k < n) {
                        walk.takers[k] = row.number[at];
                    }
                    walk.there[row.number[at]]++;
                    k = Math.min(k + 1, n);
                    at++;
                } else {
                    at = chooseAt(row, at, k * stride, walk);
                }
            }
        }

        /** On to where, from the beginning or the end of an option or a repeat. */
        private int chooseAt(Row row, int at, int base, Walk walk) {
            int mate = row.mate[at];
            if (row.code[at] == OPTION) {
                if (answer[base + at + 1] == 0) {
                    return mate + 1;
                }
                walk.there[row.number[at]]++;
            } else if (row.code[at] == REPEAT) {
                walk.there[row.number[at]]++;
                walk.passed[row.number[at]]++;
            } else if (row.code[mate] == REPEAT && answer[base + mate + 1] > 0) {
                walk.passed[row.number[mate]]++;
                return mate + 1;
            }
            return at + 1;
        }
    }

    /** What lay() and tidy() can be taken back to. */
    private static final class Past {
        private final int[][] codes = new int[MOST_BACK][LINE];
        private final int[] lengths = new int[MOST_BACK];
        private final int[] costs = new int[MOST_BACK];
        private int next = 0;
        int count = 0;

        void save(Row row, int cost) {
            System.arraycopy(row.code, 0, codes[next], 0, row.length);
            lengths[next] = row.length;
            costs[next] = cost;
            next = (next + 1) % MOST_BACK;
            count = Math.min(count + 1, MOST_BACK);
        }

        /** The costs as they were then. */
        int restore(Row row) {
            next = (next + MOST_BACK - 1) % MOST_BACK;
            count = Math.max(count - 1, 0);
            row.load(codes[next], lengths[next]);
            return costs[next];
        }
    }

    /** All orders in which pages can be laid. */
    private static final class Orders {
        private final int[] order = new int[MOST_ORDERED];
        // What has come, and at what cost, of as many pages of the order as the index says.
        private final Row[] stages = new Row[MOST_ORDERED + 1];
        private final int[] spent = new int[MOST_ORDERED + 1];
        private final int[][] ends = new int[MOST_ORDERS][LINE];
        private final int[] lengths = new int[MOST_ORDERS];
        private final int[] totals = new int[MOST_ORDERS];
        private int count = 0;
        int pageCount = 0;
        final int[] answers = new int[4];

        Orders() {
            for (int i = 0; i <= MOST_ORDERED; i++) {
                stages[i] = new Row(LINE);
            }
        }

        void goThroughAll(Leaf[] leaves, int pages, Layer layer) {
            count = 0;
            pageCount = Math.min(pages, MOST_ORDERED);
            for (int i = 0; i < pageCount; i++) {
                order[i] = i;
            }
            int changed = 0;
            for (int turn = 0; turn < MOST_ORDERS && changed >= 0; turn++) {
                // What comes of the pages ahead of the first that changed is known from the order before.
                for (int i = changed; i < pageCount; i++) {
                    int cost = layNext(stages[i], leaves[order[i]].folded, stages[i + 1], layer);
                    spent[i + 1] = spent[i] + cost;
                }
                keepEnd(stages[pageCount], spent[pageCount]);
                changed = goToNextOrder();
            }
            findAnswers();
        }

        /** The first place at which it is another than before; NONE: there is no next one. */
        private int goToNextOrder() {
            int place = pageCount - 2;
            while (place >= 0 && order[place] > order[place + 1]) {
                place--;
            }
            if (place < 0) {
                return NONE;
            }
            int greater = pageCount - 1;
            while (greater > place + 1 && order[greater] < order[place]) {
                greater--;
            }
            swap(place, greater);
            for (int i = place + 1, j = pageCount - 1; i < j; i++, j--) {
                swap(i, j);
            }
            return place;
        }

        private void swap(int i, int j) {
            int kept = order[i];
            order[i] = order[j];
            order[j] = kept;
        }

        private void findAnswers() {
            int best = 0;
            for (int i = 1; i < count; i++) {
                best = totals[i] < totals[best] ? i : best;
            }
            answers[0] = countUnlike();
            answers[1] = totals[best];
            answers[2] = best;
            answers[3] = countLike(best, count);
        }

        private static int layNext(Row row, Row folded, Row out, Layer layer) {
            if (row.length == 0) {
                out.take(folded);
                return 0;
            }
            int cost = layer.leastCost(row, folded);
            layer.build(row, folded, out);
            return cost;
        }

        private void keepEnd(Row row, int cost) {
            if (count < MOST_ORDERS) {
                System.arraycopy(row.code, 0, ends[count], 0, row.length);
                lengths[count] = row.length;
                totals[count] = cost;
                count++;
            }
        }

        private int countUnlike() {
            int unlike = 0;
            for (int i = 0; i < count; i++) {
                if (countLike(i, i) == 0) {
                    unlike++;
                }
            }
            return unlike;
        }

        /** How many of the first ones end as that one does. */
        private int countLike(int end, int first) {
            int like = 0;
            for (int i = 0; i < first; i++) {
                if (sameEnds(i, end)) {
                    like++;
                }
            }
            return like;
        }

        private boolean sameEnds(int a, int b) {
            if (lengths[a] != lengths[b]) {
                return false;
            }
            for (int i = 0; i < lengths[a]; i++) {
                if (ends[a][i] != ends[b][i]) {
                    return false;
                }
            }
            return true;
        }
    }
}
