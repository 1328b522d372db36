import java.util.ArrayList;
import java.util.List;

/**
 * Every act that can answer a finding, with each argument just outside and far outside, and with
 * two findings due at once: which one it answers, and that it changes nothing but status().
 */
public final class RefusalsTest {
    private static final int BEYOND = Check.BEYOND;
    private static final int FULL = Check.FULL;
    private static final int KIND = Check.KIND;
    private static final int NONE = Check.NONE;
    private static final int MISSING = Check.MISSING;
    private static final int SIZE = Check.SIZE;
    private static final int MIN = Integer.MIN_VALUE;
    private static final int MAX = Integer.MAX_VALUE;

    /** Of the sheets in a prepared borough; sheet 3 is MISSING. */
    private static final int[] BITS = {16, 32, 8};
    private static final int[] LENGTHS = {5, 5, 2};

    private interface Act {
        long on(PourElection x);
    }

    private RefusalsTest() {
    }

    private static long nothing(PourElection x) {
        return 0;
    }

    /** A borough where nothing is as at first: days went by, an image is kept, spots, sheets and tape are in use. */
    private static PourElection prepared(int pots) {
        PourElection x = new PourElection();
        for (int t = 0; t < pots; t++) {
            x.teapot(t % 7, 91 - t);
            x.change(t, 5, 3 + 7 * t);
        }
        x.go(3);
        x.image();
        x.change(0, 3, 2);
        x.change(pots - 1, 6, 40);
        x.go(1);
        x.ward(1, 0, 4);
        x.ward(1, 1, 70);
        x.trial(2, 5);
        x.seed(-77);
        for (int spot = 0; spot < 10; spot++) {
            x.hold(spot, spot % pots);
        }
        for (int s = 0; s < BITS.length; s++) {
            x.sheet(s, BITS[s], LENGTHS[s]);
            for (int i = 0; i < LENGTHS[s]; i++) {
                x.write(s, i, i < pots ? x.of(i, 5) : 99);
            }
        }
        Check.feed(x, "ward 0;");
        return x;
    }

    private static List<Long> seen(PourElection x) {
        List<Long> seen = new ArrayList<>();
        for (int what = 0; what < 8; what++) {
            seen.add((long) x.count(what));
        }
        for (int t = 0; t < x.count(1); t++) {
            for (int what = 0; what < 7; what++) {
                seen.add((long) x.of(t, what));
            }
        }
        for (int i = 0; i < 6; i++) {
            seen.add((long) x.wardOf(i, 0));
            seen.add((long) x.wardOf(i, 1));
            seen.add((long) x.listed(i));
        }
        for (int spot = 0; spot < 10; spot++) {
            seen.add((long) x.as(spot, 0));
        }
        for (int s = 0; s < 4; s++) {
            int end = s < 3 ? LENGTHS[s] : 0;
            seen.add((long) x.judge(s));
            seen.add((long) x.copy(s, end, s, end, 0));
            seen.add((long) x.copy(s, end + 1, s, 0, 0));
            seen.add((long) x.copy(s, 0, (s + 1) % 4, 0, 0));
        }
        return seen;
    }

    private static long[] statuses(PourElection x) {
        long[] told = new long[8];
        for (int which = -1; which < 7; which++) {
            told[which + 1] = x.status(which);
        }
        return told;
    }

    private static void refused(String name, int finding, int pots, Act before, Act act) {
        PourElection x = prepared(pots);
        PourElection twin = prepared(pots);
        before.on(x);
        before.on(twin);
        Check.due(name, act.on(x), finding);
        long[] told = statuses(x);
        long[] were = statuses(twin);
        for (int which = -1; which < 7; which++) {
            boolean counts = which == -1 || which == BEYOND - finding;
            Check.due(name + ": status " + which, told[which + 1], were[which + 1] + (counts ? 1 : 0));
        }
        Check.holds(name + ": nothing has changed", seen(x).equals(seen(twin)));
        Check.feed(x, "ward 1");
        Check.feed(twin, "ward 1");
        Check.due(name + ": the tape holds what it held", x.text(), twin.text());
        Check.due(name + ": what was kept is kept", x.undo(), twin.undo());
        Check.holds(name + ": and is as it was", seen(x).equals(seen(twin)));
    }

    private static void refused(String name, int finding, Act before, Act act) {
        refused(name, finding, 8, before, act);
    }

    private static void refused(String name, int finding, Act act) {
        refused(name, finding, 8, RefusalsTest::nothing, act);
    }

    private static int[] outside(int least, int most) {
        return new int[] {least - 1, most + 1, MIN, MAX};
    }

    private interface Call {
        long on(PourElection x, int v);
    }

    private static void beyond(String name, int least, int most, Call call) {
        for (int v : outside(least, most)) {
            refused(name + " " + v, BEYOND, x -> call.on(x, v));
        }
    }

    /** A teapot's number ends where the teapots end, be there few or eight. */
    private static void noTeapot(String name, Call call) {
        for (int pots : new int[] {1, 5, 8}) {
            for (int v : outside(0, pots - 1)) {
                refused(name + ": teapot " + v + " of " + pots, BEYOND, pots, RefusalsTest::nothing, x -> call.on(x, v));
            }
        }
        PourElection none = new PourElection();
        none.sheet(0, 8, 1);
        Check.due(name + ": there are no teapots", call.on(none, 0), BEYOND);
    }

    private static long breakAll(PourElection x) {
        for (int t = 0; t < 8; t++) {
            x.change(t, 4, 0);
        }
        return 0;
    }

    /** Four by four, since an object is good for 512 calls. */
    private static long fillTape(PourElection x, int bytes) {
        int more = bytes - x.count(5);
        for (int i = 0; i < more / 4; i++) {
            x.feed(0x20202020, 4);
        }
        return more % 4 == 0 ? 0 : x.feed(0x20202020, more % 4);
    }

    private static void borough() {
        beyond("2: WARD", 0, 5, (x, v) -> x.ward(v, 0, 1));
        beyond("2: what", 0, 1, (x, v) -> x.ward(1, v, 1));
        beyond("2: VOTERS", 0, 99, (x, v) -> x.ward(1, 0, v));
        beyond("2: TASTE", 0, 99, (x, v) -> x.ward(1, 1, v));
        beyond("3: WARD", 0, 5, (x, v) -> x.wardOf(v, 0));
        beyond("3: what", 0, 2, (x, v) -> x.wardOf(0, v));
        beyond("4: place", 0, 5, (x, v) -> x.trial(v, 3));
        beyond("4: WARD", 0, 5, (x, v) -> x.trial(0, v));
        beyond("5: place", 0, 5, (x, v) -> x.listed(v));
        for (int pots : new int[] {7, 8}) {
            for (int v : outside(0, 6)) {
                refused("6: KIND " + v, BEYOND, pots, RefusalsTest::nothing, x -> x.teapot(v, 50));
            }
            for (int v : outside(0, 99)) {
                refused("6: HEAT " + v, BEYOND, pots, RefusalsTest::nothing, x -> x.teapot(1, v));
            }
        }
        refused("6: a 9th", FULL, x -> x.teapot(0, 0));
        noTeapot("7", (x, v) -> x.of(v, 1));
        beyond("7: what", 0, 9, (x, v) -> x.of(0, v));
        noTeapot("8", (x, v) -> x.change(v, 1, 1));
        beyond("8: what", 0, 6, (x, v) -> x.change(0, v, 1));
        int[] most = {6, 99, 99, 9, 1, 99999, 9999};
        for (int what = 0; what < most.length; what++) {
            int of = what;
            beyond("8: what " + what + " becomes", 0, most[what], (x, v) -> x.change(2, of, v));
        }
        noTeapot("9", (x, v) -> x.merit(v, 1));
        beyond("9: WARD", 0, 5, (x, v) -> x.merit(1, v));
    }

    private static void days() {
        beyond("10: DAYS", 1, 60, (x, v) -> x.go(v));
        beyond("11: what", 0, 7, (x, v) -> x.now(v));
        noTeapot("12", (x, v) -> x.ahead(v, 1, 1));
        beyond("12: what", 0, 6, (x, v) -> x.ahead(0, v, 1));
        refused("12: KIND is not asked", BEYOND, x -> x.ahead(0, 0, 1));
        refused("12: STANDS is not asked", BEYOND, x -> x.ahead(0, 4, 1));
        beyond("12: DAYS", 0, 100, (x, v) -> x.ahead(0, 1, v));
        beyond("13: DAYS", 0, 100, (x, v) -> x.leads(v));
        refused("13: nobody STANDS", NONE, RefusalsTest::breakAll, x -> x.leads(0));
        refused("13: nor behind 100 DAYS", NONE, RefusalsTest::breakAll, x -> x.leads(100));
        refused("13: BEYOND ahead of NONE", BEYOND, RefusalsTest::breakAll, x -> x.leads(101));
        noTeapot("14", (x, v) -> x.when(v));
        refused("14: it never LEADS", NONE, x -> x.change(2, 4, 0), x -> x.when(2));
        refused("14: BEYOND ahead of NONE", BEYOND, RefusalsTest::breakAll, x -> x.when(8));
        noTeapot("15", (x, v) -> x.votes(v, 1));
        beyond("15: VOTES", 0, 99999, (x, v) -> x.votes(0, v));
        refused("15: it never has so many", NONE, x -> x.votes(0, 99999));
        refused("16: it is never dry", NONE, x -> x.change(5, 2, 99), x -> x.dry());
    }

    private static void howToWin() {
        noTeapot("17", (x, v) -> x.heatFor(v, 1));
        beyond("17: DAYS", 0, 60, (x, v) -> x.heatFor(0, v));
        refused("17: no HEAT would do", NONE, x -> x.change(2, 4, 0), x -> x.heatFor(2, 60));
        refused("17: BEYOND ahead of NONE", BEYOND, x -> x.change(2, 4, 0), x -> x.heatFor(2, 61));
        noTeapot("18", (x, v) -> x.kindFor(v, 1));
        beyond("18: DAYS", 0, 60, (x, v) -> x.kindFor(0, v));
        noTeapot("19", (x, v) -> x.cupsFor(v, 1));
        beyond("19: DAYS", 0, 60, (x, v) -> x.cupsFor(0, v));
        refused("19: no CUPS would do", NONE, x -> x.change(2, 4, 0), x -> x.cupsFor(2, 60));
        refused("19: BEYOND ahead of NONE", BEYOND, x -> x.change(2, 4, 0), x -> x.cupsFor(2, 61));
        noTeapot("20", (x, v) -> x.tryFor(v, 1));
        beyond("20: DAYS", 0, 60, (x, v) -> x.tryFor(0, v));
        noTeapot("21", (x, v) -> x.smash(v, 1));
        beyond("21: DAYS", 0, 20, (x, v) -> x.smash(0, v));
        refused("21: no set would do", NONE, x -> x.change(2, 4, 0), x -> x.smash(2, 20));
        refused("21: BEYOND ahead of NONE", BEYOND, x -> x.change(2, 4, 0), x -> x.smash(2, 21));
        noTeapot("22", (x, v) -> x.liked(v, 1));
        beyond("22: WARD", 0, 5, (x, v) -> x.liked(0, v));
    }

    private static void toldWinners() {
        beyond("23: sheet", 0, 3, (x, v) -> x.fits(v, 0, 0));
        refused("23: sheet 3", MISSING, x -> x.fits(3, 0, 0));
        noTeapot("23", (x, v) -> x.fits(0, v, 0));
        beyond("23: WARD", 0, 5, (x, v) -> x.fits(0, 0, v));
        refused("23: MISSING ahead of the TEAPOT", MISSING, x -> x.fits(3, 8, 0));
        refused("23: MISSING ahead of the WARD", MISSING, x -> x.fits(3, 0, 6));
        refused("23: the sheet ahead of the TEAPOT", BEYOND, x -> x.fits(4, 8, 6));
        beyond("24: sheet", 0, 3, (x, v) -> x.kinds(v, 0));
        noTeapot("24", (x, v) -> x.kinds(0, v));
        refused("24: sheet 3", MISSING, x -> x.kinds(3, 0));
        refused("24: MISSING ahead of the TEAPOT", MISSING, x -> x.kinds(3, 8));
        refused("24: the sheet ahead of the TEAPOT", BEYOND, x -> x.kinds(4, 8));
    }

    private static void byElectionsAndTexts() {
        beyond("25: times", 1, 20, (x, v) -> x.elect(v));
        noTeapot("26", (x, v) -> x.odds(v, 0, 1, 0));
        beyond("26: WARD", 0, 5, (x, v) -> x.odds(0, v, 1, 0));
        beyond("26: TASTES", 0, 9, (x, v) -> x.odds(0, 0, v, 0));
        beyond("26: what", 0, 1, (x, v) -> x.odds(0, 0, 1, v));
        beyond("28: n", 1, 4, (x, v) -> x.feed('x', v));
        for (int n = 1; n <= 4; n++) {
            int bytes = n;
            refused("28: no room for " + n, FULL, x -> fillTape(x, 121 - bytes), x -> x.feed('x', bytes));
        }
        refused("28: BEYOND ahead of FULL", BEYOND, x -> fillTape(x, 120), x -> x.feed('x', 5));
        refused("28: BEYOND ahead of FULL, 0", BEYOND, x -> fillTape(x, 120), x -> x.feed('x', 0));
    }

    private static void spots() {
        beyond("31: SPOT", 0, 9, (x, v) -> x.hold(v, 0));
        for (int pots : new int[] {1, 8}) {
            for (int v : outside(-1, pots - 1)) {
                refused("31: teapot " + v + " of " + pots, BEYOND, pots, RefusalsTest::nothing, x -> x.hold(1, v));
            }
        }
        beyond("32: SPOT", 0, 9, (x, v) -> x.as(v, 0));
        beyond("32: kind", 0, 6, (x, v) -> x.as(0, v));
        refused("32: it holds nothing", MISSING, x -> x.hold(4, -1), x -> x.as(4, 0));
        refused("32: BEYOND ahead of MISSING", BEYOND, x -> x.hold(4, -1), x -> x.as(4, 7));
        refused("32: it is above that kind", KIND, x -> x.as(3, 4));
        refused("32: it is beside that kind", KIND, x -> x.as(3, 2));
    }

    private static void sheets() {
        beyond("33: sheet", 0, 3, (x, v) -> x.sheet(v, 8, 1));
        for (int bits : new int[] {-1, 1, 4, 7, 9, 15, 17, 24, 31, 33, 64, -8, MIN, MAX}) {
            refused("33: bits " + bits, BEYOND, x -> x.sheet(0, bits, 1));
            refused("33: bits ahead of SIZE " + bits, BEYOND, x -> x.sheet(0, bits, -1));
        }
        refused("33: no such sheet ahead of SIZE", BEYOND, x -> x.sheet(4, 8, -1));
        for (int bits : new int[] {0, 8, 16, 32}) {
            for (int s : new int[] {0, 3}) {
                refused("33: n -1", SIZE, x -> x.sheet(s, bits, -1));
                refused("33: n far below", SIZE, x -> x.sheet(s, bits, MIN));
                refused("33: n 41", BEYOND, x -> x.sheet(s, bits, 41));
                refused("33: n far above", BEYOND, x -> x.sheet(s, bits, MAX));
            }
        }
        beyond("34: sheet", 0, 3, (x, v) -> x.write(v, 0, 1));
        refused("34: sheet 3", MISSING, x -> x.write(3, 0, 1));
        refused("34: MISSING ahead of the number", MISSING, x -> x.write(3, -1, 1));
        for (int s = 0; s < 3; s++) {
            int of = s;
            beyond("34: number of sheet " + s, 0, LENGTHS[s] - 1, (x, v) -> x.write(of, v, 1));
        }
        refused("34: the 41st", BEYOND, x -> x.sheet(0, 8, 40), x -> x.write(0, 40, 1));
        refused("34: of none", BEYOND, x -> x.sheet(0, 8, 0), x -> x.write(0, 0, 1));
        beyond("36: sheet", 0, 3, (x, v) -> x.load(v));
        refused("36: sheet 3", MISSING, x -> x.load(3));
        beyond("37: sheet", 0, 3, (x, v) -> x.judge(v));
        refused("37: sheet 3", MISSING, x -> x.judge(3));
    }

    private static void copies() {
        beyond("35: sheet from", 0, 3, (x, v) -> x.copy(v, 0, 0, 0, 1));
        beyond("35: sheet to", 0, 3, (x, v) -> x.copy(0, 0, v, 0, 1));
        refused("35: no such sheet from ahead of MISSING to", BEYOND, x -> x.copy(4, 0, 3, 0, 1));
        refused("35: no such sheet to ahead of MISSING from", BEYOND, x -> x.copy(3, 0, 4, 0, 1));
        refused("35: MISSING from", MISSING, x -> x.copy(3, 0, 0, 0, 1));
        refused("35: MISSING to", MISSING, x -> x.copy(0, 0, 3, 0, 1));
        refused("35: MISSING both", MISSING, x -> x.copy(3, 0, 3, 0, 0));
        refused("35: MISSING ahead of the numbers", MISSING, x -> x.copy(0, -1, 3, 9, 99));
        refused("35: 16 bits, 32 bits", KIND, x -> x.copy(0, 0, 1, 0, 1));
        refused("35: 32 bits, 8 bits", KIND, x -> x.copy(1, 0, 2, 0, 1));
        refused("35: KIND with none to come", KIND, x -> x.copy(0, 0, 1, 0, 0));
        refused("35: KIND ahead of the numbers", KIND, x -> x.copy(0, -1, 1, 9, 99));
        Act alike = x -> x.sheet(1, 16, 3);
        int[][] wrong = {{-1, 0, 1}, {MIN, 0, 1}, {0, -1, 1}, {0, MIN, 1}, {0, 0, -1}, {0, 0, MIN}, {0, 0, 4}, {3, 0, 3},
            {0, 2, 2}, {5, 0, 1}, {0, 3, 1}, {6, 0, 0}, {0, 4, 0}, {MAX, 0, 0}, {0, MAX, 0}, {0, 0, MAX}, {MAX, 0, 1},
            {0, MAX, 1}, {MAX, MAX, MAX}, {1, 0, MAX}, {0, 1, MAX}, {MIN, 0, MIN}, {-1, -1, 0}};
        for (int[] w : wrong) {
            refused("35: from " + w[0] + " to " + w[1] + " so many: " + w[2], BEYOND, alike,
                x -> x.copy(0, w[0], 1, w[1], w[2]));
        }
        refused("35: of the other one", BEYOND, alike, x -> x.copy(1, 0, 0, 0, 4));
        refused("35: within itself", BEYOND, x -> x.copy(0, 1, 0, 0, 5));
    }

    private static void images() {
        beyond("41: what", 0, 7, (x, v) -> x.count(v));
        beyond("42: which", -1, 6, (x, v) -> x.status(v));
        refused("39: nothing is kept", NONE, x -> x.tear(), x -> x.undo());
    }

    public static void main(String[] args) {
        borough();
        days();
        howToWin();
        toldWinners();
        byElectionsAndTexts();
        spots();
        sheets();
        copies();
        images();
        Check.end("RefusalsTest");
    }
}
