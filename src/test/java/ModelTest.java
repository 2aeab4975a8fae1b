import java.lang.reflect.InvocationTargetException;
import java.lang.reflect.Method;
import java.util.ArrayList;
import java.util.Comparator;
import java.util.List;
import java.util.Random;

/** Runs of calls by chance, always the same ones, on the class and on the model: every answer has to be the same. */
public final class ModelTest {
    private static final int CALLS = 512;
    private final Random random;
    private final PageSkeleton real = new PageSkeleton();
    private final SkeletonModel model = new SkeletonModel();
    private final List<String> log = new ArrayList<>();
    private int wrong = 0;
    private int calls = 0;
    private int skipped = 0;
    private List<String> shape;
    private final int letters;

    private ModelTest(long seed) {
        random = new Random(seed);
        letters = 1 + random.nextInt(5);
    }

    public static void main(String[] args) throws Exception {
        long first = args.length > 0 ? Long.parseLong(args[0]) : 1;
        long runs = args.length > 1 ? Long.parseLong(args[1]) : 200;
        int wrong = 0;
        int skipped = 0;
        int most = 0;
        for (long seed = first; seed < first + runs && wrong == 0; seed++) {
            ModelTest test = new ModelTest(seed);
            test.run();
            if (test.wrong > 0) {
                System.out.println("seed " + seed);
            }
            wrong += test.wrong;
            skipped += test.skipped;
            most = Math.max(most, test.real.told(2));
        }
        System.out.println(runs + " runs, " + wrong + " wrong, " + skipped + " not compared, most nodes " + most);
        System.exit(wrong > 0 ? 1 : 0);
    }

    private static List<Method> questions() {
        List<Method> methods = new ArrayList<>();
        for (Method method : PageSkeleton.class.getDeclaredMethods()) {
            boolean open = java.lang.reflect.Modifier.isPublic(method.getModifiers());
            if (open && !List.of("feed", "page", "lay", "undo", "clear", "tidy").contains(method.getName())) {
                methods.add(method);
            }
        }
        methods.sort(Comparator.comparing(Method::getName));
        return methods;
    }

    private static final List<Method> QUESTIONS = questions();

    private void run() throws Exception {
        shape = template(random.nextInt(4));
        int pages = 1 + random.nextInt(8);
        for (int i = 0; i < pages && calls < CALLS - 30; i++) {
            tellPage();
        }
        while (calls < CALLS && wrong == 0) {
            change();
            for (int i = random.nextInt(25); i >= 0 && calls < CALLS; i--) {
                ask();
            }
        }
    }

    private void change() throws Exception {
        int what = random.nextInt(20);
        if (what < 11) {
            call("lay", int.class, pageNumber());
        } else if (what < 14) {
            call("tidy");
        } else if (what < 17) {
            call("undo");
        } else if (what < 18) {
            call("clear");
        } else {
            tellPage();
        }
        for (int i = 0; i < 10; i++) {
            call("told", int.class, i);
        }
    }

    private int pageNumber() {
        return random.nextInt(12) == 0 ? random.nextInt(12) - 2 : random.nextInt(Math.max(1, real.told(0)));
    }

    private void ask() throws Exception {
        Method method = QUESTIONS.get(random.nextInt(QUESTIONS.size()));
        Object[] arguments = new Object[method.getParameterCount()];
        for (int i = 0; i < arguments.length; i++) {
            arguments[i] = argument(method.getName(), i, arguments.length);
        }
        invoke(method, arguments);
    }

    private int argument(String name, int index, int count) {
        if (random.nextInt(40) == 0) {
            return random.nextBoolean() ? Integer.MIN_VALUE : Integer.MAX_VALUE;
        }
        boolean nodeFirst = List.of("node", "unlike", "alike", "users", "greatest").contains(name);
        boolean whatFirst = List.of("told", "tidied", "orders", "firm", "status").contains(name);
        if (nodeFirst && index == 0 || name.equals("alike")
            || List.of("times", "passes", "value", "pageNode").contains(name) && index == 1) {
            return random.nextInt(Math.max(3, real.told(2)) + 2) - 1;
        }
        if (name.equals("derived")) {
            return random.nextInt(64) - 2;
        }
        if (name.equals("tokenOf") && index == 0) {
            return random.nextInt(real.told(1) + 2) - 1;
        }
        if (List.of("taker", "token").contains(name) && index == 1) {
            return random.nextInt(20) - 1;
        }
        if (whatFirst || index == count - 1 && index > 0 && !List.of("distance", "common", "similar").contains(name)) {
            return random.nextInt(name.equals("value") ? 4 : 11) - 1;
        }
        if (name.equals("step") && index == 1) {
            return random.nextInt(6) - 1;
        }
        return pageNumber();
    }

    private void call(String name) throws Exception {
        invoke(PageSkeleton.class.getMethod(name));
    }

    private void call(String name, Class<?> type, int argument) throws Exception {
        invoke(PageSkeleton.class.getMethod(name, type), argument);
    }

    private void invoke(Method method, Object... arguments) throws Exception {
        if (calls >= CALLS || wrong > 0) {
            return;
        }
        calls++;
        Method other = SkeletonModel.class.getDeclaredMethod(method.getName(), method.getParameterTypes());
        String due = answer(other, model, arguments);
        String got = answer(method, real, arguments);
        log.add(method.getName() + java.util.Arrays.toString(arguments) + " = " + got);
        if (due.equals("Skip")) {
            skipped++;
        } else if (!due.equals(got)) {
            wrong++;
            for (String line : log) {
                System.out.println(line);
            }
            System.out.println("due is " + due);
        }
    }

    private static String answer(Method method, Object object, Object... arguments) throws Exception {
        try {
            return String.valueOf(method.invoke(object, arguments));
        } catch (InvocationTargetException e) {
            return e.getCause().getClass().getSimpleName();
        }
    }

    // ---- pages

    private String tag() {
        return String.valueOf((char) ('a' + random.nextInt(letters)));
    }

    private String word() {
        return String.valueOf((char) ('w' + random.nextInt(4)));
    }

    // A template: tokens, "?" for any word, "[" "]" round what may be missing, "{" "}" round what repeats.
    private List<String> template(int depth) {
        List<String> row = new ArrayList<>();
        for (int i = random.nextInt(4); i >= 0; i--) {
            int what = random.nextInt(10);
            if (what < 2) {
                row.add(word());
            } else if (what < 3) {
                row.add("?");
            } else if (what < 5 || depth == 0) {
                row.add(random.nextInt(5) == 0 ? "</" + tag() + ">" : "<" + tag() + ">");
            } else if (what < 7) {
                String name = tag();
                row.add("<" + name + ">");
                row.addAll(template(depth - 1));
                row.add("</" + name + ">");
            } else {
                row.add(what < 8 ? "[" : "{");
                row.addAll(template(depth - 1));
                row.add(what < 8 ? "]" : "}");
            }
        }
        return row;
    }

    private static int endOf(List<String> row, int from) {
        int open = 0;
        for (int i = from; i < row.size(); i++) {
            open += "[{".contains(row.get(i)) ? 1 : "]}".contains(row.get(i)) ? -1 : 0;
            if (open == 0) {
                return i;
            }
        }
        return row.size();
    }

    private void expand(List<String> row, int from, int to, List<String> out) {
        for (int i = from; i < to; i++) {
            String part = row.get(i);
            if (part.equals("[") || part.equals("{")) {
                int end = endOf(row, i);
                int times = part.equals("[") ? random.nextInt(2) : 1 + random.nextInt(3);
                for (int k = 0; k < times; k++) {
                    expand(row, i + 1, end, out);
                }
                i = end;
            } else {
                out.add(part.equals("?") ? word() : part);
            }
        }
    }

    private void spoil(List<String> tokens) {
        for (int i = random.nextInt(3); i > 0; i--) {
            int at = random.nextInt(tokens.size() + 1);
            if (random.nextBoolean() || at == tokens.size()) {
                tokens.add(at, random.nextBoolean() ? word() : "<" + tag() + ">");
            } else {
                tokens.remove(at);
            }
        }
    }

    private String text() {
        List<String> tokens = new ArrayList<>();
        expand(shape, 0, shape.size(), tokens);
        if (random.nextInt(3) == 0) {
            spoil(tokens);
        }
        if (random.nextInt(8) == 0) {
            List<String> once = new ArrayList<>(tokens);
            for (int i = random.nextInt(4); i > 0; i--) {
                tokens.addAll(once);
            }
        }
        StringBuilder text = new StringBuilder();
        for (String token : tokens) {
            boolean words = text.length() > 0 && Character.isLetter(text.charAt(text.length() - 1))
                && Character.isLetter(token.charAt(0));
            text.append(words || random.nextInt(9) == 0 ? " " : "").append(token);
        }
        if (random.nextInt(12) == 0 && text.length() > 0) {
            String signs = "<>/ azq~";
            text.setCharAt(random.nextInt(text.length()), signs.charAt(random.nextInt(signs.length())));
        }
        return text.toString();
    }

    private void tellPage() throws Exception {
        String text = text();
        for (int i = 0; i < 20 && (text.length() > 240 || text.isEmpty()); i++) {
            text = text();
        }
        text = text.length() > 240 ? text.substring(0, 240) : text;
        StringBuilder padded = new StringBuilder(text);
        while (padded.length() % 20 != 0) {
            padded.append((char) random.nextInt(256));
        }
        Method feed = PageSkeleton.class.getMethod("feed", int.class, int.class, int.class, int.class, int.class);
        for (int i = 0; i < padded.length(); i += 20) {
            Object[] numbers = new Object[5];
            for (int k = 0; k < 5; k++) {
                int number = 0;
                for (int b = 0; b < 4; b++) {
                    number = number << 8 | padded.charAt(i + k * 4 + b);
                }
                numbers[k] = number;
            }
            invoke(feed, numbers);
        }
        call("page", int.class, random.nextInt(30) == 0 ? random.nextInt(500) - 20 : text.length());
        call("fault");
    }
}
