import java.lang.reflect.InvocationTargetException;
import java.lang.reflect.Method;
import java.util.ArrayList;
import java.util.Arrays;
import java.util.Comparator;
import java.util.List;
import java.util.Random;

/** Runs of calls drawn with a fixed seed: the program must answer each as the model does. */
public final class RandomRunsTest {
    // With the last step and what is asked at the end no object is used for more than 512 calls.
    private static final int CALLS = 250;
    private static final int FAR_CALLS = 500;
    private static final int[] EDGES = {-2, -1, 0, 1, 5, 6, 7, 8, 9, 10, 12, 20, 21, 39, 40, 41, 60, 61, 99, 100, 101,
        9999, 10000, 99999, 100000, 255, 128, 65535, 32768, Integer.MIN_VALUE, Integer.MAX_VALUE, -1000001};
    private static final String[] WORDS = {"teapot", "brown", "silver", "cosy", "rose", "urn", "gilt", "ward", "trial",
        "heat", "cups", "dribble", "votes", "broken", "voters", "taste", ";", ";", " ", "0", "5", "6", "9", "10", "99",
        "100", "99999", "100000", "x", "!"};

    private final Random random;
    private final PourElection program = new PourElection();
    private final Model model = new Model();
    private final List<String> told = new ArrayList<>();

    private RandomRunsTest(long seed) {
        random = new Random(seed);
    }

    private static long ask(Object x, Method method, int[] args) throws ReflectiveOperationException {
        Object[] boxed = Arrays.stream(args).boxed().toArray();
        return ((Number) method.invoke(x, boxed)).longValue();
    }

    private static Method named(Class<?> type, String name) {
        return Arrays.stream(type.getDeclaredMethods()).filter(m -> m.getName().equals(name)).findFirst().orElseThrow();
    }

    private boolean alike(String name, int... args) throws ReflectiveOperationException {
        long want;
        try {
            want = ask(model, named(Model.class, name), args);
        } catch (InvocationTargetException e) {
            if (!(e.getCause() instanceof Model.Finding)) {
                throw e;
            }
            want = model.counted((Model.Finding) e.getCause());
        }
        long got = ask(program, named(PourElection.class, name), args);
        String call = name + Arrays.toString(args);
        told.add(call + " " + got);
        Check.due(call, got, want);
        if (got != want) {
            told.forEach(System.out::println);
        }
        return got == want;
    }

    private int below(int n) {
        return random.nextInt(n);
    }

    /** An argument that is mostly within, sometimes an edge of something. */
    private int mostly(int n) {
        return below(40) == 0 ? EDGES[below(EDGES.length)] : below(n);
    }

    private boolean feedAll(String text) throws ReflectiveOperationException {
        boolean alike = true;
        int at = 0;
        while (alike && at < text.length()) {
            int n = Math.min(1 + below(4), text.length() - at);
            int bytes = below(2) == 0 ? 0 : random.nextInt();
            for (int i = 0; i < n; i++) {
                bytes = bytes << 8 | text.charAt(at + i);
            }
            alike = alike("feed", bytes, n);
            at += n;
        }
        return alike && alike("text");
    }

    private String item() {
        StringBuilder b = new StringBuilder();
        int sort = below(9);
        if (sort < 7) {
            b.append(WORDS[sort]);
            b.append(below(2) == 0 ? " heat " + mostly(100) : "").append(below(2) == 0 ? " cups " + mostly(100) : "");
            b.append(below(3) == 0 ? " dribble " + mostly(10) : "").append(below(3) == 0 ? " votes " + mostly(200) : "");
            b.append(below(4) == 0 ? " broken" : "");
        } else if (sort == 7) {
            b.append("ward ").append(mostly(6)).append(below(2) == 0 ? " voters " + mostly(100) : "");
            b.append(below(2) == 0 ? "taste" + mostly(100) : "");
        } else {
            b.append("trial ").append(mostly(6)).append(' ').append(mostly(6));
        }
        return b.toString();
    }

    private String text() {
        StringBuilder b = new StringBuilder(item());
        for (int i = below(4); i > 0; i--) {
            b.append(below(2) == 0 ? ";" : " ; ").append(item());
        }
        for (int i = below(3) == 0 ? 1 + below(2) : 0; i > 0; i--) {
            int at = below(b.length() + 1);
            int to = Math.min(b.length(), at + below(4));
            b.replace(at, to, below(2) == 0 ? "" : WORDS[below(WORDS.length)]);
        }
        return b.length() > 120 ? b.substring(0, 120) : b.toString();
    }

    private boolean tellWon(int s, int teapot, int what) throws ReflectiveOperationException {
        int n = below(15);
        boolean alike = alike("sheet", s, below(4) == 0 ? 8 : 16, n);
        for (int i = 0; alike && i < n; i++) {
            int v = below(3) == 0 ? -1 : model.ahead(teapot, what, i);
            alike = alike("write", s, i, below(60) == 0 ? v + 1 : v);
        }
        return alike && alike("fits", s, teapot, below(6)) && alike("kinds", s, teapot);
    }

    private boolean tellVotes(int s) throws ReflectiveOperationException {
        int n = Math.min(40, Math.max(0, model.count(1) + below(3) - 1));
        boolean alike = alike("sheet", s, 32, n);
        for (int i = 0; alike && i < n; i++) {
            alike = alike("write", s, i, i < model.count(1) ? model.of(i, 5) : 0);
        }
        return alike && alike("judge", s);
    }

    private boolean step() throws ReflectiveOperationException {
        int pots = Math.max(1, model.count(1));
        int t = mostly(pots);
        switch (below(52)) {
            case 0: return alike("ward", mostly(6), mostly(2), mostly(below(2) == 0 ? 30 : 100));
            case 1: return alike("wardOf", mostly(6), mostly(3));
            case 2: return alike("trial", mostly(6), mostly(6));
            case 3: return alike("listed", mostly(6));
            case 4: return below(4) != 0 || alike("teapot", mostly(7), mostly(100));
            case 5: case 6: return alike("of", t, mostly(10));
            case 7: case 8: return changed(t, mostly(7));
            case 9: return alike("merit", t, mostly(6));
            case 10: case 11: return alike("go", 1 + mostly(8));
            case 12: return alike("now", mostly(8));
            case 13: return alike("ahead", t, mostly(7), mostly(101));
            case 14: return alike("leads", mostly(101));
            case 15: return alike("when", t);
            case 16: return alike("votes", t, mostly(500));
            case 17: return alike("dry");
            case 18: return alike("heatFor", t, mostly(61));
            case 19: return alike("kindFor", t, mostly(61));
            case 20: return alike("cupsFor", t, mostly(61));
            case 21: return alike("tryFor", t, mostly(61));
            case 22: return below(3) != 0 || alike("smash", t, mostly(21));
            case 23: return alike("liked", t, mostly(6));
            case 24: return alike("fits", mostly(4), t, mostly(6));
            case 25: return alike("kinds", mostly(4), t);
            case 26: return alike("elect", 1 + mostly(4));
            case 27: return alike("odds", t, mostly(6), mostly(10), mostly(2));
            case 28: return below(3) != 0 || alike("seed", random.nextInt());
            case 29: return alike("feed", random.nextInt(), mostly(5));
            case 30: return alike("wipe");
            case 31: return alike("text");
            case 32: case 33: return alike("hold", mostly(10), mostly(pots + 1) - 1);
            case 34: case 35: return alike("as", mostly(10), mostly(7));
            case 36: return alike("sheet", mostly(4), below(5) == 0 ? mostly(33) : 8 << below(3), mostly(41));
            case 37: case 38: return alike("write", mostly(4), mostly(41), below(2) == 0 ? mostly(100) : random.nextInt());
            case 39: case 40: return alike("copy", mostly(4), mostly(8), mostly(4), mostly(8), mostly(8));
            case 41: return alike("load", mostly(4));
            case 42: return alike("judge", mostly(4));
            case 43: return alike("image");
            case 44: return alike("undo");
            case 45: return below(4) != 0 || alike("tear");
            case 46: return alike("count", mostly(8));
            case 47: return alike("status", mostly(8) - 1);
            case 48: return below(3) != 0 || alike("wipe") && feedAll(text());
            case 49: return model.count(1) == 0 || tellWon(below(4), below(pots), 6);
            case 50: return model.count(1) == 0 || tellWon(below(4), below(pots), 1);
            default: return tellVotes(below(4));
        }
    }

    private boolean changed(int t, int what) throws ReflectiveOperationException {
        int[] usual = {7, 100, 100, 10, 2, 300, 30};
        boolean known = what >= 0 && what < usual.length;
        return alike("change", t, what, mostly(known && below(9) != 0 ? usual[what] : 100001));
    }

    private boolean started() throws ReflectiveOperationException {
        int pots = below(9);
        boolean alike = true;
        for (int i = 0; alike && i < pots; i++) {
            alike = alike("teapot", below(7), below(3) == 0 ? 90 : below(100)) && (below(2) == 0 || alike("change", i, 3, below(10)));
        }
        return alike;
    }

    private boolean ended() throws ReflectiveOperationException {
        boolean alike = true;
        for (int t = 0; alike && t < model.count(1); t++) {
            for (int what = 0; alike && what < 10; what++) {
                alike = alike("of", t, what);
            }
        }
        for (int what = 0; alike && what < 8; what++) {
            alike = alike("count", what) && alike("now", what) && alike("status", what - 1);
        }
        for (int i = 0; alike && i < 10; i++) {
            alike = alike("as", i, 0);
        }
        for (int i = 0; alike && i < 6; i++) {
            alike = alike("listed", i) && alike("wardOf", i, 0) && alike("wardOf", i, 1) && alike("wardOf", i, 2);
        }
        return alike;
    }

    private boolean run() throws ReflectiveOperationException {
        boolean alike = started();
        while (alike && told.size() < CALLS) {
            alike = step();
        }
        return alike && ended();
    }

    public static void main(String[] args) throws ReflectiveOperationException {
        int runs = args.length > 0 ? Integer.parseInt(args[0]) : 600;
        boolean alike = true;
        for (int seed = 0; alike && seed < runs; seed++) {
            alike = new RandomRunsTest(seed).run();
        }
        allEndsOfArguments();
        Check.end("RandomRunsTest");
    }

    private static RandomRunsTest farFrom(long seed) throws ReflectiveOperationException {
        RandomRunsTest x = new RandomRunsTest(seed);
        x.alike("teapot", 2, 50);
        x.alike("sheet", 0, 8, 3);
        return x;
    }

    /** Every call with every mixture of far arguments: nothing is thrown, and the model says the same. */
    private static void allEndsOfArguments() throws ReflectiveOperationException {
        int[] far = {Integer.MIN_VALUE, -1, 0, 41, Integer.MAX_VALUE};
        Method[] calls = PourElection.class.getDeclaredMethods();
        Arrays.sort(calls, Comparator.comparing(Method::getName));
        for (Method call : calls) {
            if (java.lang.reflect.Modifier.isPublic(call.getModifiers())) {
                int many = (int) Math.pow(far.length, call.getParameterCount());
                RandomRunsTest x = farFrom(many);
                for (int mixture = 0; mixture < many; mixture++) {
                    if (mixture > 0 && mixture % FAR_CALLS == 0) {
                        x = farFrom(many);
                    }
                    int[] args = new int[call.getParameterCount()];
                    int rest = mixture;
                    for (int i = 0; i < args.length; i++) {
                        args[i] = far[rest % far.length];
                        rest /= far.length;
                    }
                    x.alike(call.getName(), args);
                }
            }
        }
    }
}
