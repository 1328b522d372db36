/** What the tests share: the findings, comparing, making boroughs and sheets, and feeding a text. */
final class Check {
    static final int BEYOND = -1000001;
    static final int FULL = -1000002;
    static final int KIND = -1000003;
    static final int NONE = -1000004;
    static final int STATE = -1000005;
    static final int MISSING = -1000006;
    static final int SIZE = -1000007;

    private static int asked = 0;
    private static int wrong = 0;

    private Check() {
    }

    static void due(String what, long got, long want) {
        asked++;
        if (got != want) {
            wrong++;
            System.out.println(what + ": answered " + got + ", due is " + want);
        }
    }

    static void holds(String what, boolean isSo) {
        due(what, isSo ? 1 : 0, 1);
    }

    /** A new object with teapots of these kinds, all with HEAT 90. */
    static PourElection with(int... kinds) {
        PourElection x = new PourElection();
        for (int kind : kinds) {
            x.teapot(kind, 90);
        }
        return x;
    }

    static void sheet(PourElection x, int s, int bits, int... numbers) {
        x.sheet(s, bits, numbers.length);
        for (int i = 0; i < numbers.length; i++) {
            x.write(s, i, numbers[i]);
        }
    }

    static void of(String what, PourElection x, int teapot, int... want) {
        for (int i = 0; i < want.length; i++) {
            due(what + ": of(" + teapot + ", " + i + ")", x.of(teapot, i), want[i]);
        }
    }

    static void feed(PourElection x, String text) {
        for (int i = 0; i < text.length(); i++) {
            x.feed(text.charAt(i), 1);
        }
    }

    static int read(PourElection x, String text) {
        feed(x, text);
        return x.text();
    }

    static void end(String test) {
        System.out.println(test + ": " + asked + " asked, " + wrong + " wrong");
        if (wrong != 0) {
            System.exit(1);
        }
    }
}
