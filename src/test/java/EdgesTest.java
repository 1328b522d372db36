/**
 * The boundary cases of the document's terms and promises, worked out by hand: the least and the
 * most that is taken, empty and full, exactly enough and one less, wrapping round. What is refused
 * is RefusalsTest's.
 */
public final class EdgesTest {
    private static final int MIN = Integer.MIN_VALUE;
    private static final int MAX = Integer.MAX_VALUE;
    private static final int TEAPOT = 0;
    private static final int BROWN = 1;
    private static final int SILVER = 2;
    private static final int COSY = 3;
    private static final int ROSE = 4;
    private static final int URN = 5;
    private static final int GILT = 6;

    private EdgesTest() {
    }

    private static void due(String what, long got, long want) {
        Check.due(what, got, want);
    }

    private static void voters(PourElection x, int... voters) {
        for (int i = 0; i < 6; i++) {
            x.ward(i, 0, voters[i % voters.length]);
        }
    }

    private static void tastes(PourElection x, int taste) {
        for (int i = 0; i < 6; i++) {
            x.ward(i, 1, taste);
        }
    }

    /** Teapot 1 wins every day: behind n days it has 3 * n votes; the urn, number 0, has its votes ahead of it. */
    private static PourElection threes(int ahead) {
        PourElection x = Check.with(URN, TEAPOT);
        voters(x, 3);
        x.change(0, 5, ahead);
        return x;
    }

    // ---- terms

    private static void findings() {
        PourElection x = new PourElection();
        int was = 1;
        for (int z = Check.BEYOND; z >= Check.SIZE; z--) {
            due("terms: z may be as a finding", x.seed(z), was);
            due("terms: and is told", x.count(6), z);
            was = z;
        }
        due("terms: these are no findings", x.status(-1), 0);
    }

    private static void theList() {
        PourElection x = Check.with(URN);
        x.change(0, 2, 99);
        voters(x, 1, 2, 3, 4, 5, 6);
        int[] votes = {0, 1, 3, 6, 10, 15, 21, 22, 24, 27, 31, 36, 42, 43};
        for (int n = 0; n < votes.length; n++) {
            due("terms: THE LIST goes round, day " + n, x.ahead(0, 5, n), votes[n]);
        }
        for (int i = 0; i < 6; i++) {
            x.trial(i, 5 - i);
        }
        int[] back = {0, 6, 11, 15, 18, 20, 21, 27};
        for (int n = 0; n < back.length; n++) {
            due("terms: THE LIST backwards, day " + n, x.ahead(0, 5, n), back[n]);
        }
    }

    private static void merit(String what, int kind, int[] has, int[] ward, int want) {
        PourElection x = Check.with(kind);
        x.change(0, 1, has[0]);
        x.change(0, 2, has[1]);
        x.change(0, 3, has[2]);
        x.ward(ward[0], 0, ward[1]);
        x.ward(ward[0], 1, ward[2]);
        due("terms: MERIT of a " + what, x.merit(0, ward[0]), want);
    }

    private static int[] has(int heat, int cups, int dribble) {
        return new int[] {heat, cups, dribble};
    }

    private static int[] in(int ward, int voters, int taste) {
        return new int[] {ward, voters, taste};
    }

    private static void meritOfTeapots() {
        merit("teapot, as it is liked, cold", TEAPOT, has(0, 20, 0), in(0, 10, 0), 100);
        merit("teapot, as it is liked, hot", TEAPOT, has(99, 20, 0), in(5, 10, 99), 100);
        merit("teapot, as far as can be, cold", TEAPOT, has(0, 20, 0), in(0, 10, 99), 1);
        merit("teapot, as far as can be, hot", TEAPOT, has(99, 20, 0), in(0, 10, 0), 1);
        merit("teapot, 1", TEAPOT, has(0, 20, 9), in(0, 10, 54), 1);
        merit("teapot, exactly 0", TEAPOT, has(0, 20, 9), in(0, 10, 55), 0);
        merit("teapot, would be -1", TEAPOT, has(0, 20, 9), in(0, 10, 56), 0);
        merit("teapot, would be -44", TEAPOT, has(99, 20, 9), in(0, 10, 0), 0);
        merit("urn, of 100", URN, has(60, 20, 0), in(0, 10, 60), 50);
        merit("urn, of 1", URN, has(0, 20, 0), in(0, 10, 99), 0);
        merit("urn, of 2", URN, has(0, 20, 0), in(0, 10, 98), 1);
        merit("urn, of 3", URN, has(0, 20, 0), in(0, 10, 97), 1);
        merit("urn, of 0", URN, has(0, 20, 9), in(0, 10, 99), 0);
        merit("silver in ward 0", SILVER, has(60, 20, 0), in(0, 10, 60), 100);
        merit("silver in ward 5", SILVER, has(60, 20, 0), in(5, 10, 60), 125);
        merit("silver, 0 and 25", SILVER, has(0, 20, 9), in(5, 10, 99), 25);
        merit("gilt, 1", GILT, has(0, 20, 4), in(1, 10, 80), 1);
        merit("gilt, exactly 0", GILT, has(0, 20, 5), in(1, 10, 75), 0);
        merit("gilt, would be -1", GILT, has(0, 20, 6), in(1, 10, 70), 0);
        merit("gilt, would be -9", GILT, has(0, 20, 9), in(0, 10, 99), 0);
        merit("gilt without dribble", GILT, has(60, 20, 0), in(5, 10, 60), 125);
    }

    private static void meritOfBrowns() {
        for (int kind : new int[] {BROWN, COSY}) {
            merit("brown, cups as voters", kind, has(60, 10, 0), in(0, 10, 60), 110);
            merit("brown, a cup more", kind, has(60, 11, 0), in(0, 10, 60), 110);
            merit("brown, a cup less", kind, has(60, 9, 0), in(0, 10, 60), 100);
            merit("brown, no cup, no voter", kind, has(60, 0, 0), in(0, 0, 60), 110);
            merit("brown, no cup, a voter", kind, has(60, 0, 0), in(0, 1, 60), 100);
            merit("brown, 99 of both", kind, has(60, 99, 0), in(0, 99, 60), 110);
            merit("brown, 98 of 99", kind, has(60, 98, 0), in(0, 99, 60), 100);
            merit("brown, 0 and 10", kind, has(0, 10, 9), in(0, 10, 99), 10);
        }
        merit("rose, just right, cold", ROSE, has(0, 0, 9), in(0, 10, 0), 150);
        merit("rose, just right, hot", ROSE, has(99, 99, 0), in(5, 10, 99), 150);
        merit("rose, a little hotter", ROSE, has(61, 10, 0), in(0, 10, 60), 54);
        merit("rose, a little colder", ROSE, has(59, 10, 0), in(0, 10, 60), 54);
        merit("rose, a cup less", ROSE, has(59, 9, 0), in(0, 10, 60), 49);
        merit("rose, half of 10", ROSE, has(0, 10, 9), in(0, 10, 99), 5);
        merit("rose, half of 0", ROSE, has(0, 9, 9), in(0, 10, 99), 0);
        merit("rose, half of 1", ROSE, has(0, 9, 0), in(0, 10, 99), 0);
    }

    private static void cooling() {
        int[] cools = {10, 8, 20, 2, 1, 5, 15};
        for (int kind = 0; kind < 7; kind++) {
            for (int more = -1; more < 2; more++) {
                PourElection x = Check.with(kind);
                x.change(0, 1, cools[kind] + more);
                due("terms: HEAT a day later, kind " + kind, x.ahead(0, 1, 1), Math.max(0, more));
                x.change(0, 1, 0);
                due("terms: 0 stays, kind " + kind, x.ahead(0, 1, 1), 0);
                x.change(0, 1, 99);
                due("terms: from 99, kind " + kind, x.ahead(0, 1, 1), 99 - cools[kind]);
            }
        }
    }

    private static void wetting() {
        PourElection x = Check.with(BROWN, COSY, ROSE, SILVER, GILT, TEAPOT, URN);
        for (int day = 0; day < 16; day++) {
            int brown = day == 0 || day == 5 || day == 10 || day == 15 ? 1 : 0;
            int[] wets = {brown, brown, brown, 1, x.of(4, 1) < 50 ? 0 : 1, 0, 0};
            for (int t = 0; t < wets.length; t++) {
                due("terms: WETS on day " + day + " of " + t, x.of(t, 8), wets[t]);
            }
            x.go(1);
        }
        int[] heats = {0, 49, 50, 99};
        int[] wets = {0, 0, 1, 1};
        for (int i = 0; i < heats.length; i++) {
            PourElection y = Check.with(GILT);
            y.change(0, 1, heats[i]);
            due("terms: GILT of " + heats[i], y.of(0, 8), wets[i]);
            due("terms: it wets as hot as it pours", y.ahead(0, 3, 1), wets[i]);
        }
        PourElection z = Check.with(BROWN);
        voters(z, 3);
        int[] dribble = {0, 1, 1, 1, 1, 1, 2, 2, 2, 2, 2, 3};
        for (int n = 0; n < dribble.length; n++) {
            due("terms: DRIBBLE of a BROWN behind " + n, z.ahead(0, 3, n), dribble[n]);
        }
    }

    private static void trying() {
        PourElection x = Check.with(TEAPOT, TEAPOT, TEAPOT, TEAPOT);
        due("terms: of four alike the least", x.wardOf(0, 2), 0);
        x.change(0, 2, 0);
        due("terms: not without a cup", x.wardOf(0, 2), 1);
        x.change(1, 4, 0);
        due("terms: not broken", x.wardOf(0, 2), 2);
        x.change(3, 1, 89);
        due("terms: a little better", x.wardOf(0, 2), 3);
        x.change(3, 2, 1);
        due("terms: one cup is enough", x.wardOf(0, 2), 3);
        x.go(1);
        Check.of("terms: without a cup", x, 0, 0, 80, 0, 0, 1, 0, 0);
        Check.of("terms: broken", x, 1, 0, 90, 20, 0, 0, 0, 0);
        Check.of("terms: it poured, but did not win", x, 2, 0, 80, 10, 0, 1, 0, 0);
        Check.of("terms: it won by one cup", x, 3, 0, 79, 0, 0, 1, 1, 1);
        x.change(2, 2, 0);
        x.go(1);
        due("terms: no cup left, nobody won", x.count(3), 1);
    }

    private static void pouring() {
        int[][] cases = {{99, 99, 0, 99}, {98, 99, 0, 98}, {99, 98, 1, 98}, {1, 99, 0, 1}, {99, 1, 98, 1}, {1, 1, 0, 1},
            {0, 99, 0, 0}, {99, 0, 99, 0}, {0, 0, 0, 0}};
        for (int[] c : cases) {
            PourElection x = Check.with(SILVER);
            x.change(0, 2, c[0]);
            x.ward(0, 0, c[1]);
            x.go(1);
            int won = c[3] > 0 ? 1 : 0;
            Check.of("terms: " + c[0] + " cups, " + c[1] + " voters", x, 0, SILVER, 70, c[2], won, 1, c[3], won);
        }
        PourElection x = Check.with(SILVER, SILVER);
        x.change(0, 3, 8);
        x.change(1, 3, 7);
        int[] eight = {8, 9, 9, 9};
        int[] seven = {7, 8, 9, 9};
        voters(x, 2);
        for (int n = 0; n < 4; n++) {
            due("terms: DRIBBLE 9 at most", x.ahead(0, 3, n), eight[n]);
            due("terms: DRIBBLE 9 at most", x.ahead(1, 3, n), seven[n]);
        }
        PourElection y = Check.with(SILVER);
        y.change(0, 2, 0);
        y.go(3);
        due("terms: without a cup it does not wet", y.of(0, 3), 0);
    }

    private static void winning() {
        int[][] votes = {{99988, 99998}, {99989, 99999}, {99990, 99999}, {99999, 99999}};
        for (int[] v : votes) {
            PourElection x = Check.with(TEAPOT);
            x.change(0, 5, v[0]);
            due("terms: VOTES from " + v[0], x.ahead(0, 5, 1), v[1]);
        }
        int[][] won = {{9997, 9998}, {9998, 9999}, {9999, 9999}};
        for (int[] w : won) {
            PourElection x = Check.with(TEAPOT);
            x.change(0, 6, w[0]);
            due("terms: WON from " + w[0], x.ahead(0, 6, 1), w[1]);
        }
    }

    private static void filling() {
        PourElection x = Check.with(URN, TEAPOT, ROSE, TEAPOT);
        voters(x, 0);
        x.change(0, 2, 0);
        x.change(1, 2, 99);
        x.change(2, 1, 99);
        x.change(3, 1, 33);
        x.change(3, 2, 7);
        x.change(3, 3, 3);
        x.change(3, 4, 0);
        x.go(5);
        Check.of("terms: not filled behind five days", x, 0, URN, 65, 0, 0, 1, 0, 0);
        Check.of("terms: nor this", x, 1, TEAPOT, 40, 99, 0, 1, 0, 0);
        Check.of("terms: nor that", x, 2, ROSE, 94, 20, 0, 1, 0, 0);
        x.go(1);
        Check.of("terms: filled up", x, 0, URN, 90, 99, 0, 1, 0, 0);
        Check.of("terms: not fuller than it HOLDS", x, 1, TEAPOT, 90, 20, 0, 1, 0, 0);
        Check.of("terms: not hotter than 90", x, 2, ROSE, 90, 6, 0, 1, 0, 0);
        Check.of("terms: nothing comes to the broken one", x, 3, TEAPOT, 33, 7, 3, 0, 0, 0);
        x.go(5);
        due("terms: not on day 10", x.of(0, 1), 65);
        x.go(1);
        due("terms: again on day 11", x.of(0, 1), 90);
        due("terms: nobody won, nobody voted", x.count(2) + x.count(3), 0);
        due("terms: DAY", x.now(0), 12);
        PourElection y = Check.with(URN);
        voters(y, 0, 0, 0, 0, 0, 15);
        y.go(6);
        Check.of("terms: it is poured ahead of filling", y, 0, URN, 90, 99, 0, 1, 15, 1);
    }

    private static void leading() {
        PourElection x = new PourElection();
        due("terms: nobody LEADS", x.now(1), -1);
        for (int t = 0; t < 8; t++) {
            x.teapot(TEAPOT, 90);
        }
        due("terms: with no votes the least", x.now(1), 0);
        x.change(7, 5, 1);
        due("terms: one vote", x.now(1), 7);
        x.change(6, 5, 1);
        due("terms: of several the least", x.now(1), 6);
        x.change(7, 5, 99999);
        x.change(3, 5, 99999);
        due("terms: of the most too", x.now(1), 3);
        x.change(3, 4, 0);
        due("terms: of those that STAND", x.now(1), 7);
        for (int t = 0; t < 8; t++) {
            x.change(t, 4, 0);
        }
        due("terms: all are broken", x.now(1), -1);
    }

    private static int next(int z) {
        return (int) (z * 1103515245L + 12345L);
    }

    private static int drawn(int z, int rest) {
        return (int) ((z & 0xffffffffL) / 256 % rest);
    }

    private static PourElection eight() {
        return Check.with(TEAPOT, TEAPOT, TEAPOT, TEAPOT, TEAPOT, TEAPOT, TEAPOT, TEAPOT);
    }

    private static void draws() {
        int below = 0;
        for (int seed : new int[] {0, 1, -1, MIN, MAX, MIN + 1, 0x40000000, 77, 12345678, -87654321}) {
            PourElection x = eight();
            x.seed(seed);
            int first = next(seed);
            int second = next(first);
            int third = next(second);
            below += (first < 0 ? 1 : 0) + (second < 0 ? 1 : 0) + (third < 0 ? 1 : 0);
            x.elect(1);
            due("terms: z behind three draws", x.count(6), third);
            due("25: THE LIST", x.listed(0), drawn(first, 6));
            due("25: TASTE", x.wardOf(drawn(first, 6), 1), drawn(second, 100));
            due("25: one does not STAND any more", x.now(4), 255 - (1 << drawn(third, 8)));
        }
        Check.holds("terms: some z were below 0", below > 5);
    }

    // ---- borough, teapots

    private static void promises1To5() {
        PourElection x = new PourElection();
        due("1: an empty tape is no TEXT", x.text(), -1);
        due("1: nothing to wipe", x.wipe(), 0);
        due("1: nobody has a cup", x.dry(), 0);
        for (int ward = 0; ward < 6; ward++) {
            due("2: VOTERS 99 of ward " + ward, x.ward(ward, 0, 99), 10);
            due("2: VOTERS 0", x.ward(ward, 0, 0), 99);
            due("2: TASTE 99", x.ward(ward, 1, 99), 60);
            due("2: TASTE 0", x.ward(ward, 1, 0), 99);
            due("2: the same again", x.ward(ward, 1, 0), 0);
            due("3: VOTERS", x.wardOf(ward, 0), 0);
            due("3: TASTE", x.wardOf(ward, 1), 0);
            due("3: nobody", x.wardOf(ward, 2), -1);
        }
        x.teapot(0, 0);
        for (int ward = 0; ward < 6; ward++) {
            due("3: nobody without VOTERS", x.wardOf(ward, 2), -1);
            x.ward(ward, 0, 1);
            due("3: with one", x.wardOf(ward, 2), 0);
        }
        for (int i = 0; i < 6; i++) {
            for (int ward = 0; ward < 6; ward++) {
                due("4: it was", x.trial(i, ward), ward == 0 ? i : ward - 1);
                due("5: it is", x.listed(i), ward);
            }
        }
        due("5: the others are as told", x.listed(0), 5);
        due("5: nothing was found", x.status(-1), 0);
    }

    private static void promises6To9() {
        PourElection x = new PourElection();
        due("6: the first, HEAT 0", x.teapot(0, 0), 0);
        due("6: KIND 6, HEAT 99", x.teapot(6, 99), 1);
        for (int t = 2; t < 7; t++) {
            x.teapot(0, 50);
        }
        due("6: there is room for the 8th", x.teapot(3, 1), 7);
        due("6: not for a 9th", x.teapot(3, 1), Check.FULL);
        Check.of("6: the first", x, 0, 0, 0, 20, 0, 1, 0, 0, 10, 0, 20);
        Check.of("6: the second", x, 1, 6, 99, 20, 0, 1, 0, 0, 15, 1, 15);
        Check.of("6: the 8th", x, 7, 3, 1, 20, 0, 1, 0, 0, 2, 1, 30);
        int[] most = {6, 99, 99, 9, 1, 99999, 9999};
        int[] were = {3, 1, 20, 0, 1, 0, 0};
        for (int what = 0; what < 7; what++) {
            due("8: the most", x.change(7, what, most[what]), were[what]);
            due("8: the least", x.change(7, what, 0), most[what]);
            due("7: is told", x.of(7, what), 0);
        }
        due("9: the last in the last ward", x.merit(7, 5), 40);
        due("9: the first in the first", x.merit(0, 0), 40);
    }

    // ---- days

    private static void promises10And11() {
        PourElection x = Check.with(GILT, URN, ROSE);
        PourElection y = Check.with(GILT, URN, ROSE);
        int leader = x.go(60);
        for (int i = 0; i < 59; i++) {
            y.go(1);
        }
        due("10: 60 at once", leader, y.go(1));
        due("10: DAY", x.now(0), 60);
        for (int t = 0; t < 3; t++) {
            for (int what = 0; what < 7; what++) {
                due("10: 60 are 60 times 1", x.of(t, what), y.of(t, what));
            }
        }
        PourElection all = eight();
        int[] most = {0, 99, 99, 9, 1, 99999, 9999};
        for (int t = 0; t < 8; t++) {
            for (int what = 1; what < 7; what++) {
                all.change(t, what, most[what]);
            }
        }
        int[] now = {0, 0, 799992, 792, 255, 63, 72, 0};
        int[] count = {0, 8, 799992, 79992, 8, 0, 1, 0};
        for (int what = 0; what < 8; what++) {
            due("11: the most of " + what, all.now(what), now[what]);
            due("41: the most of " + what, all.count(what), count[what]);
        }
        for (int t = 0; t < 8; t++) {
            all.change(t, 4, 0);
        }
        int[] broken = {0, -1, 799992, 0, 0, 0, 72, -1};
        int[] counted = {0, 8, 799992, 79992, 0, 0, 1, 0};
        for (int what = 0; what < 8; what++) {
            due("11: all are broken, " + what, all.now(what), broken[what]);
            due("41: all are broken, " + what, all.count(what), counted[what]);
        }
        all.change(7, 4, 1);
        all.change(7, 1, 0);
        due("11: the hottest is cold", all.now(7), 7);
        due("11: a set of the last alone", all.now(4), 128);
        voters(all, 0, 0, 0, 0, 0, 1);
        due("11: the last ward alone", all.now(5), 32);
        all.change(6, 4, 1);
        all.change(6, 1, 0);
        due("11: of several the least", all.now(7), 6);
    }

    // ---- what will be

    private static void promises12To15() {
        PourElection x = threes(299);
        due("12: behind 0", x.ahead(1, 5, 0), 0);
        due("12: behind 99", x.ahead(1, 5, 99), 297);
        due("12: behind 100", x.ahead(1, 5, 100), 300);
        due("12: WON behind 100", x.ahead(1, 6, 100), 100);
        due("12: HEAT behind 100", x.ahead(1, 1, 100), 50);
        due("12: CUPS behind 100", x.ahead(1, 2, 100), 8);
        due("13: behind 0", x.leads(0), 0);
        due("13: behind 99", x.leads(99), 0);
        due("13: behind 100", x.leads(100), 1);
        x.change(0, 5, 300);
        due("13: as many are not enough for the second", x.leads(100), 0);
        due("14: it LEADS now", x.when(0), 0);
        x.change(0, 5, 0);
        due("14: behind one", x.when(1), 1);
        x.change(0, 5, 597);
        due("14: behind 200", x.when(1), 200);
        x.change(0, 5, 596);
        due("14: behind 199", x.when(1), 199);
        x.change(0, 5, 599);
        due("14: behind 200 still", x.when(1), 200);
        x.change(0, 5, 600);
        due("14: only behind 201", x.when(1), Check.NONE);
        due("15: 0 at once", x.votes(1, 0), 0);
        due("15: 1", x.votes(1, 1), 1);
        due("15: behind 199", x.votes(1, 597), 199);
        due("15: behind 200", x.votes(1, 600), 200);
        due("15: only behind 201", x.votes(1, 601), Check.NONE);
        x.change(1, 5, 99990);
        due("15: the most, exactly", x.votes(1, 99999), 3);
        x.change(1, 5, 99998);
        due("15: the most, cut", x.votes(1, 99999), 1);
        x.change(1, 5, 50);
        x.change(1, 4, 0);
        due("15: broken it has what it has", x.votes(1, 50), 0);
        due("15: and no more", x.votes(1, 51), Check.NONE);
        due("14: broken it does not LEAD", x.when(1), Check.NONE);
        due("12: broken it stays", x.ahead(1, 1, 100), 90);
        due("12: nothing has changed", x.now(0), 0);
    }

    /** Behind 12 days all rounds are alike, so nothing gets dry for the first time later than that. */
    private static void promise16() {
        PourElection x = Check.with(TEAPOT);
        x.change(0, 2, 0);
        due("16: at once", x.dry(), 0);
        x.change(0, 2, 1);
        due("16: behind one", x.dry(), 1);
        voters(x, 4);
        x.change(0, 2, 99);
        due("16: on the last day ahead of the second filling", x.dry(), 11);
        x.change(0, 2, 20);
        due("16: on the last day ahead of the first filling", x.dry(), 5);
        voters(x, 3, 3, 3, 3, 3, 5);
        due("16: the last cup on the day of filling", x.dry(), Check.NONE);
        voters(x, 3, 3, 3, 3, 3, 3);
        due("16: never", x.dry(), Check.NONE);
        voters(x, 0);
        due("16: without VOTERS never", x.dry(), Check.NONE);
        x.change(0, 4, 0);
        due("16: of none that STANDS", x.dry(), 0);
    }

    // ---- how to win

    private static void promises17And19() {
        PourElection x = threes(179);
        // With HEAT 57 it has MERIT 47 on day 5, as the urn has, and the urn has the least number.
        due("17: behind 60", x.heatFor(1, 60), 58);
        due("17: not yet behind 59", x.heatFor(1, 59), Check.NONE);
        due("19: behind 60", x.cupsFor(1, 60), 18);
        due("19: not yet behind 59", x.cupsFor(1, 59), Check.NONE);
        x.change(0, 5, 180);
        due("17: as many are not enough for the second", x.heatFor(1, 60), Check.NONE);
        due("19: nor with more CUPS", x.cupsFor(1, 60), Check.NONE);
        due("17: it LEADS anyway", x.heatFor(0, 60), 0);
        due("19: it LEADS anyway", x.cupsFor(0, 60), 0);
        due("17: now", x.heatFor(0, 0), 0);
        due("19: now", x.cupsFor(0, 0), 0);
        due("17: not now", x.heatFor(1, 0), Check.NONE);
        due("19: not now", x.cupsFor(1, 0), Check.NONE);
        PourElection y = Check.with(TEAPOT, TEAPOT);
        tastes(y, 99);
        y.change(0, 1, 98);
        due("17: HEAT 99 alone would do", y.heatFor(1, 1), 99);
        y.change(0, 1, 99);
        due("17: not even 99", y.heatFor(1, 1), Check.NONE);
        y.change(0, 1, 0);
        y.change(0, 5, 98);
        y.ward(0, 0, 99);
        due("19: 99 CUPS alone would do", y.cupsFor(1, 1), 99);
        y.change(0, 5, 99);
        due("19: not even 99", y.cupsFor(1, 1), Check.NONE);
        y.change(0, 5, 0);
        due("19: one CUP", y.cupsFor(1, 1), 1);
    }

    private static void promise18() {
        PourElection x = Check.with(BROWN);
        voters(x, 99);
        due("18: now all are alike", x.kindFor(0, 0), TEAPOT);
        due("18: still alike when they are filled", x.kindFor(0, 6), TEAPOT);
        due("18: what it HOLDS tells a day later", x.kindFor(0, 7), URN);
        due("18: behind 60", x.kindFor(0, 60), URN);
        due("18: it is as it was", x.of(0, 0), BROWN);
        x.change(0, 5, 99999);
        due("18: no more VOTES to win", x.kindFor(0, 60), TEAPOT);
        x.change(0, 5, 0);
        x.change(0, 4, 0);
        due("18: broken", x.kindFor(0, 60), TEAPOT);
        // In ward 1 on day 1 the silver's MERIT is 104, of a GILT 105, of a BROWN 103, of the others less.
        PourElection y = Check.with(SILVER, TEAPOT);
        y.change(0, 1, 94);
        y.ward(0, 0, 0);
        y.ward(1, 1, 75);
        due("18: the last KIND", y.kindFor(1, 2), GILT);
        y.change(0, 1, 95);
        due("18: none wins against that", y.kindFor(1, 2), TEAPOT);
    }

    private static void promise20() {
        PourElection x = Check.with(URN);
        voters(x, 3, 3, 3, 3, 3, 4);
        due("20: now all are alike", x.tryFor(0, 0), 0);
        due("20: the last WARD", x.tryFor(0, 1), 5);
        due("20: behind 60", x.tryFor(0, 60), 5);
        x.change(0, 5, 99999);
        due("20: no more VOTES to win", x.tryFor(0, 60), 0);
        x.change(0, 5, 0);
        voters(x, 4, 4, 3, 3, 3, 3);
        due("20: of several the least", x.tryFor(0, 60), 0);
        x.go(5);
        due("20: in the last place too", x.tryFor(0, 1), 0);
        voters(x, 0);
        due("20: no VOTERS anywhere", x.tryFor(0, 60), 0);
        due("20: THE LIST is as it was", x.listed(5), 5);
    }

    private static void promise21() {
        PourElection x = eight();
        for (int t = 1; t < 8; t++) {
            x.change(t, 5, 9);
        }
        due("21: all others, for the first", x.smash(0, 0), 254);
        due("21: none, for the one that LEADS", x.smash(1, 0), 0);
        due("21: one", x.smash(2, 0), 2);
        x.change(7, 5, 8);
        due("21: all others that STAND ahead of it, for the last", x.smash(7, 0), 126);
        x.change(0, 5, 8);
        due("21: all others, for the last", x.smash(7, 0), 127);
        x.change(3, 4, 0);
        due("21: a broken one is none of the fewest", x.smash(7, 0), 119);
        PourElection alone = Check.with(TEAPOT);
        due("21: alone", alone.smash(0, 20), 0);
        alone.change(0, 4, 0);
        due("21: alone and broken", alone.smash(0, 20), Check.NONE);
        PourElection y = threes(59);
        due("21: behind 20", y.smash(1, 20), 0);
        due("21: behind 19", y.smash(1, 19), 1);
        y.change(0, 5, 60);
        due("21: as many are not enough for the second", y.smash(1, 20), 1);
    }

    private static void promises22And23() {
        PourElection x = Check.with(TEAPOT, TEAPOT);
        x.change(0, 1, 98);
        x.change(1, 1, 99);
        due("22: TASTE 99 alone", x.liked(1, 0), 1);
        due("22: all but 99", x.liked(0, 0), 99);
        Check.sheet(x, 0, 8, 0, 1);
        due("23: TASTE 99 alone", x.fits(0, 1, 0), 1);
        due("23: all but 99", x.fits(0, 0, 0), 99);
        x.change(0, 1, 1);
        x.change(1, 1, 0);
        due("22: TASTE 0 alone", x.liked(1, 5), 1);
        due("22: all but 0", x.liked(0, 5), 99);
        due("23: TASTE 0 alone", x.fits(0, 1, 0), 1);
        due("23: all but 0", x.fits(0, 0, 0), 99);
        x.change(0, 2, 0);
        due("22: every TASTE", x.liked(1, 0), 100);
        due("22: none", x.liked(0, 0), 0);
        due("23: every TASTE", x.fits(0, 1, 0), 100);
        due("23: none", x.fits(0, 0, 0), 0);
        // On 0-numbers nothing is asked, on one only what is so now.
        x.sheet(1, 32, 0);
        due("23: of no numbers", x.fits(1, 0, 0), 100);
        Check.sheet(x, 1, 32, 0);
        due("23: now", x.fits(1, 0, 0), 100);
        Check.sheet(x, 1, 32, 1);
        due("23: not now", x.fits(1, 0, 0), 0);
        x.sheet(2, 16, 40);
        for (int i = 0; i < 40; i++) {
            x.write(2, i, i < 12 ? -1 : 5555);
        }
        due("23: of 40 numbers 12 are asked", x.fits(2, 1, 5), 100);
        x.write(2, 11, 5555);
        due("23: the 12th", x.fits(2, 1, 5), 0);
        due("23: nothing has changed", x.wardOf(0, 1) + x.wardOf(5, 1) + x.now(0), 120);
    }

    private static void promise24() {
        PourElection x = Check.with(TEAPOT);
        x.change(0, 1, 0);
        Check.sheet(x, 0, 8, 0, 0, 0, 0, 0, 0, 90);
        due("24: all are as cold", x.kinds(0, 0), 127);
        Check.sheet(x, 0, 8, 0, 0, 0, 0, 0, 0, 90, 75);
        due("24: the last KIND alone", x.kinds(0, 0), 64);
        Check.sheet(x, 0, 8, 0, 0, 0, 0, 0, 0, 90, 80);
        due("24: the first alone", x.kinds(0, 0), 1);
        Check.sheet(x, 0, 8, 0, 0, 0, 0, 0, 0, 90, 81);
        due("24: none", x.kinds(0, 0), 0);
        x.sheet(0, 8, 0);
        due("24: of no numbers", x.kinds(0, 0), 127);
        Check.sheet(x, 0, 8, -2);
        due("24: -2 is no any", x.kinds(0, 0), 0);
        x.change(0, 4, 0);
        x.sheet(0, 32, 40);
        due("24: broken it stays, whatever KIND", x.kinds(0, 0), 127);
        x.write(0, 39, 1);
        due("24: the 40th is asked", x.kinds(0, 0), 0);
    }

    // ---- by-elections

    private static int seedFor(int rest) {
        int seed = 0;
        while (drawn(next(next(next(seed))), 8) != rest) {
            seed++;
        }
        return seed;
    }

    private static void promise25() {
        for (int rest = 0; rest < 8; rest++) {
            PourElection x = Check.with(TEAPOT, TEAPOT, TEAPOT);
            x.seed(seedFor(rest));
            x.elect(1);
            due("25: teapot " + rest + " of three", x.now(4), rest < 3 ? 7 - (1 << rest) : 7);
            x.seed(seedFor(rest));
            x.elect(1);
            due("25: it STANDS again", x.now(4), 7);
        }
        PourElection one = Check.with(TEAPOT);
        one.seed(seedFor(0));
        due("25: nobody STANDS then", one.elect(1), -1);
        Check.of("25: it did not pour that day", one, 0, TEAPOT, 90, 20, 0, 0, 0, 0);
        one.seed(seedFor(0));
        due("25: it STANDS, and LEADS", one.elect(1), 0);
        Check.of("25: it poured that day", one, 0, TEAPOT, 80, 10, 0, 1, 10, 1);
        PourElection x = eight();
        PourElection y = eight();
        int z = 1;
        for (int i = 0; i < 60; i++) {
            z = next(z);
        }
        int last = x.elect(20);
        due("25: 60 draws", x.count(6), z);
        due("25: 20 days", x.count(0), 20);
        int lastOfY = -1;
        for (int i = 0; i < 20; i++) {
            lastOfY = y.elect(1);
        }
        due("25: 20 are 20 times 1", last, lastOfY);
        due("25: who STANDS", x.now(4), y.now(4));
        due("25: VOTES", x.now(2), y.now(2));
        for (int i = 0; i < 6; i++) {
            due("25: THE LIST", x.listed(i), y.listed(i));
            due("25: TASTES", x.wardOf(i, 1), y.wardOf(i, 1));
        }
    }

    private static void promises26And27() {
        PourElection x = Check.with(TEAPOT);
        long[] below = {1, 1};
        for (int n = 0; n < 10; n++) {
            due("26: it always wins", x.odds(0, 0, n, 0), below[0]);
            due("26: 1 of 1", x.odds(0, 0, n, 1), below[1]);
        }
        x.ward(5, 0, 0);
        due("26: never", x.odds(0, 5, 9, 0), 0);
        due("26: 0 of 1", x.odds(0, 5, 9, 1), 1);
        due("26: by no tastes always", x.odds(0, 5, 0, 0), 1);
        due("26: 1 of 1", x.odds(0, 5, 0, 1), 1);
        x.teapot(TEAPOT, 91);
        x.change(0, 1, 90);
        due("26: 91 and more: 9 of 100", x.odds(1, 0, 1, 0), 9);
        due("26: nothing to cut", x.odds(1, 0, 1, 1), 100);
        due("26: the others", x.odds(0, 0, 1, 0), 91);
        x.change(1, 1, 10);
        due("26: a half", x.odds(0, 0, 1, 0), 1);
        due("26: cut", x.odds(0, 0, 1, 1), 2);
        due("26: a half by nine", x.odds(0, 0, 9, 1), 512);
        due("27: MIN", x.seed(MIN), 1);
        due("27: MAX", x.seed(MAX), MIN);
        due("27: 0", x.seed(0), MAX);
        due("27: is told", x.count(6), 0);
    }

    // ---- texts

    private static void promises28And29() {
        PourElection x = new PourElection();
        due("28: one byte", x.feed('w', 1), 1);
        due("28: two", x.feed('a' << 8 | 'r', 2), 3);
        due("28: three", x.feed('d' << 16 | ' ' << 8 | '5', 3), 6);
        due("28: four", x.feed(0x20202020, 4), 10);
        due("28: highest first", x.text(), 1);
        due("28: of -1 the lowest byte", x.feed(-1, 1), 1);
        due("28: it begins no TOKEN", x.text(), -1);
        for (int i = 0; i < 30; i++) {
            due("28: up to 120", x.feed(0x20202020, 4), 4 * i + 4);
        }
        due("41: 120 bytes", x.count(5), 120);
        due("28: full", x.feed(' ', 1), Check.FULL);
        due("29: it had 120", x.wipe(), 120);
        due("29: it has none", x.wipe(), 0);
        for (int i = 0; i < 116; i++) {
            x.feed(' ', 1);
        }
        due("28: four more fill it", x.feed(' ', 4), 120);
        x.wipe();
        due("28: there is room again", x.feed(' ', 1), 1);
    }

    private static void read(String text, int want) {
        due("30: '" + text + "'", Check.read(new PourElection(), text), want);
    }

    private static void promise30Limits() {
        read("urn heat 0 cups 0 dribble 0 votes 0", 1);
        read("urn heat 99 cups 99 dribble 9 votes 99999", 1);
        read("urn heat 100", -10);
        read("urn cups 100", -10);
        read("urn dribble 10", -13);
        read("urn votes 100000", -11);
        read("ward 0 voters 0 taste 0", 1);
        read("ward 5 voters 99 taste 99", 1);
        read("ward 6", -6);
        read("ward 0 voters 100", -15);
        read("ward 0 taste 100", -14);
        read("trial 0 0", 1);
        read("trial 5 5", 1);
        read("trial 6 0", -7);
        read("trial 0 6", -9);
        read("urn heat 0099", 1);
        read("urn heat 00000000000000000000000000000000000000000000000000000000000099", 1);
        read("urn votes 0099999", 1);
        read("urn votes 0100000", -11);
        read("urn votes 4294967297", -11);
        read("urn votes 18446744073709551617", -11);
        read("urnbroken", -1);
        read("urn broken", 1);
        read("urn heat5cups6", 1);
        read("ward5voters99taste99;trial5 5;gilt", 3);
        read("trial55", -6);
        read("urn" + " ".repeat(117), 1);
        read(" ".repeat(117) + "urn", 1);
        read(" ".repeat(119) + ";", -120);
        read(" ".repeat(119) + "5", -120);
        read(" ".repeat(113) + "ward 5;", -121);
        PourElection x = new PourElection();
        due("30: 31 bytes, 8 teapots", Check.read(x, "urn;urn;urn;urn;urn;urn;urn;urn"), 8);
        due("30: all STAND", x.now(4), 255);
        due("30: a 9th", Check.read(x, "urn"), -1);
        due("30: the WORD of a 9th is asked ahead of its NUMBER", Check.read(x, "urn heat 100"), -1);
        due("30: a 9th behind another ITEM", Check.read(x, "ward 0 voters 7;gilt"), -17);
        due("30: so VOTERS stay", x.wardOf(0, 0), 10);
        due("30: no 9th, no FAULT", Check.read(x, "ward 0 voters 7"), 1);
        due("30: VOTERS", x.wardOf(0, 0), 7);
        read("urn;urn;urn;urn;urn;urn;urn;urn;urn", -33);
    }

    private static void promise30Ends() {
        read("", -1);
        read(" ", -2);
        read("urn;", -5);
        read("urn ;  ", -8);
        read("urn heat", -9);
        read("urn heat  ", -11);
        read("urn cups", -9);
        read("urn dribble", -12);
        read("urn votes", -10);
        read("ward", -5);
        read("ward 0 voters", -14);
        read("ward 0 taste", -13);
        read("trial", -6);
        read("trial 0", -8);
        read(";", -1);
        read(";urn", -1);
        read("urn;;", -5);
        read("heat 5", -1);
        read("broken", -1);
        read("urn heat ;", -10);
        read("urn heat heat 5", -10);
        read("urn votes 5 heat 5", -13);
        read("urn votes 5 dribble 5", -13);
        read("urn dribble 5 cups 5", -15);
        read("urn broken heat 5", -12);
        read("urn ward 0", -5);
        read("ward 0 1", -8);
        read("ward 0 heat 1", -8);
        read("ward heat 1", -6);
        read("trial 0 1 2", -11);
        read("trial 0;1", -8);
        read("trial a 1", -7);
        read("urn\n", -4);
        read("urn" + (char) 0, -4);
        read("urn" + (char) 255, -4);
        read("urn`", -4);
        read("urn{", -4);
        read("urn/", -4);
        read("urn:", -4);
        read("urn<", -4);
        read("ward /", -6);
        read("ward :", -6);
        read("A", -1);
        read("{", -1);
    }

    private static void promise30Teapots() {
        PourElection x = new PourElection();
        String[] words = {"teapot", "brown", "silver", "cosy", "rose", "urn", "gilt"};
        for (int kind = 0; kind < 7; kind++) {
            due("30: a " + words[kind], Check.read(x, words[kind]), 1);
            Check.of("30: as at first", x, kind, kind, 90, 20, 0, 1, 0, 0);
        }
        due("30: the 8th", Check.read(x, "rose heat 99 cups 99 dribble 9 votes 99999 broken"), 1);
        Check.of("30: the most of all", x, 7, ROSE, 99, 99, 9, 0, 99999, 0);
        due("30: both", Check.read(x, "ward 5 voters 99 taste 99 ; ward 0 voters 0 taste 0 ; trial 5 0 ; trial 0 5"), 4);
        due("30: VOTERS 99", x.wardOf(5, 0), 99);
        due("30: TASTE 99", x.wardOf(5, 1), 99);
        due("30: VOTERS 0", x.wardOf(0, 0), 0);
        due("30: TASTE 0", x.wardOf(0, 1), 0);
        due("30: the last place", x.listed(5), 0);
        due("30: the first place", x.listed(0), 5);
        due("30: a ward with nothing to tell", Check.read(x, "ward 5"), 1);
        due("30: stays", x.wardOf(5, 0) + x.wardOf(5, 1), 198);
        PourElection y = new PourElection();
        y.go(7);
        Check.read(y, "silver heat 0 cups 0 votes 0");
        Check.of("30: the least of all", y, 0, SILVER, 0, 0, 0, 1, 0, 0);
        due("30: DAY goes on", y.now(0), 7);
    }

    // ---- spots, sheets

    private static void promises31And32() {
        PourElection x = eight();
        for (int spot = 0; spot < 10; spot++) {
            due("31: nothing on nothing", x.hold(spot, -1), 1);
            due("31: the last teapot", x.hold(spot, 7), 1);
            due("32: is held", x.as(spot, 0), 7);
            due("41: SPOTS", x.count(7), spot + 1);
        }
        due("31: another one instead", x.hold(9, 0), 1);
        due("32: is held", x.as(9, 0), 0);
        due("41: SPOTS", x.count(7), 10);
        due("31: nothing", x.hold(9, -1), 1);
        due("32: nothing is held", x.as(9, 0), Check.MISSING);
        due("41: SPOTS", x.count(7), 9);
        x.change(7, 4, 0);
        due("32: broken it is held", x.as(0, 0), 7);
        x.change(7, 0, ROSE);
        due("32: a ROSE is a COSY", x.as(0, COSY), 7);
        due("32: a ROSE is a BROWN", x.as(0, BROWN), 7);
        due("32: a ROSE is no SILVER", x.as(0, SILVER), Check.KIND);
        x.change(7, 0, COSY);
        due("32: a COSY is no ROSE", x.as(0, ROSE), Check.KIND);
    }

    private static void promise33() {
        PourElection x = new PourElection();
        for (int s = 0; s < 4; s++) {
            for (int bits : new int[] {8, 16, 32}) {
                due("33: none", x.sheet(s, bits, 0), 0);
                due("33: it is there", x.judge(s), 0);
                due("33: 40", x.sheet(s, bits, 40), 40);
                due("33: the 40th", x.write(s, 39, 1), 1);
                due("33: anew", x.sheet(s, bits, 40), 40);
                due("33: its begin is 0", x.load(s), 6);
                due("33: all are 0", x.copy(s, 34, s, 0, 6) + x.load(s) + x.wardOf(5, 1), 12);
                due("33: MISSING", x.sheet(s, 0, 40), 0);
                due("33: it is not there", x.judge(s), Check.MISSING);
                due("33: MISSING again", x.sheet(s, 0, 0), 0);
            }
        }
        x.sheet(0, 8, 5);
        x.sheet(0, 8, 2);
        due("33: shorter", x.copy(0, 0, 0, 0, 3), Check.BEYOND);
        x.sheet(0, 16, 2);
        x.sheet(1, 8, 2);
        due("33: of other bits", x.copy(0, 0, 1, 0, 1), Check.KIND);
    }

    private static void number(int bits, int written, int told) {
        PourElection x = Check.with(TEAPOT);
        Check.sheet(x, 0, bits, written);
        String name = "34: " + written + " of " + bits + " bits is " + told;
        if (told >= 0 && told <= 99999) {
            x.change(0, 5, told);
            due(name, x.judge(0), 0);
        } else {
            // A number below 0 (or far above) can only be seen as none of these.
            due(name + ", no VOTES", x.judge(0), 1);
            due(name + ", no TASTE", x.load(0), 0);
            x.change(0, 5, Math.min(99999, Math.max(0, written)));
            due(name + ", nor as it was written", x.judge(0), 1);
        }
        due(name + ", any or not", x.kinds(0, 0), told == -1 || told == 90 ? 127 : 0);
    }

    private static void promise34() {
        int[][] of8 = {{0, 0}, {1, 1}, {127, 127}, {128, -128}, {129, -127}, {254, -2}, {255, -1}, {256, 0}, {257, 1},
            {346, 90}, {511, -1}, {-1, -1}, {-128, -128}, {-129, 127}, {-256, 0}, {MAX, -1}, {MIN, 0}};
        for (int[] n : of8) {
            number(8, n[0], n[1]);
        }
        int[][] of16 = {{255, 255}, {256, 256}, {32767, 32767}, {32768, -32768}, {65534, -2}, {65535, -1}, {65536, 0},
            {65626, 90}, {-1, -1}, {-32769, 32767}, {-65536, 0}, {MAX, -1}, {MIN, 0}};
        for (int[] n : of16) {
            number(16, n[0], n[1]);
        }
        int[][] of32 = {{255, 255}, {32768, 32768}, {65535, 65535}, {65536, 65536}, {99999, 99999}, {-1, -1},
            {100000, 100000}, {MAX, MAX}, {MIN, MIN}};
        for (int[] n : of32) {
            number(32, n[0], n[1]);
        }
        PourElection x = new PourElection();
        x.sheet(3, 8, 40);
        due("34: the first number", x.write(3, 0, 1), 1);
        due("34: the last number", x.write(3, 39, 1), 1);
    }

    private static void told(String what, PourElection x, int s, int... want) {
        x.load(s);
        for (int i = 0; i < want.length; i++) {
            due(what + ": number " + i, x.wardOf(i, 1), want[i]);
        }
    }

    private static void promise35() {
        PourElection x = new PourElection();
        x.sheet(0, 32, 40);
        x.sheet(3, 32, 40);
        for (int i = 0; i < 40; i++) {
            x.write(0, i, i + 1);
        }
        due("35: all 40", x.copy(0, 0, 3, 0, 40), 40);
        told("35: all came", x, 3, 1, 2, 3, 4, 5, 6);
        x.copy(3, 34, 3, 0, 6);
        told("35: the last ones too", x, 3, 35, 36, 37, 38, 39, 40);
        due("35: none at the end", x.copy(0, 40, 3, 40, 0), 0);
        due("35: none at the begin", x.copy(0, 0, 3, 0, 0), 0);
        due("35: the last to the first", x.copy(0, 39, 3, 0, 1), 1);
        due("35: the first to the last", x.copy(0, 0, 3, 39, 1), 1);
        told("35: the last is first", x, 3, 40, 36);
        Check.sheet(x, 1, 8, 1, 2, 3, 4, 5, 6);
        due("35: on itself", x.copy(1, 0, 1, 0, 6), 6);
        told("35: as it was", x, 1, 1, 2, 3, 4, 5, 6);
        due("35: up within itself", x.copy(1, 0, 1, 2, 4), 4);
        told("35: as they all were", x, 1, 1, 2, 1, 2, 3, 4);
        due("35: down within itself", x.copy(1, 2, 1, 0, 4), 4);
        told("35: as they all were", x, 1, 1, 2, 3, 4, 3, 4);
        x.sheet(2, 8, 0);
        due("35: none to none", x.copy(2, 0, 2, 0, 0), 0);
        due("35: none has not one", x.copy(2, 0, 1, 0, 1), Check.BEYOND);
        Check.sheet(x, 2, 8, 200);
        x.copy(2, 0, 1, 0, 1);
        due("35: with its sign", x.load(1), 0);
    }

    private static void promises36And37() {
        PourElection x = new PourElection();
        Check.sheet(x, 0, 16, 0, 99, 0, 99, 0, 99, 100);
        due("36: 0 and 99 come, the 7th is not asked", x.load(0), 6);
        due("36: the last", x.wardOf(5, 1), 99);
        Check.sheet(x, 0, 16, 7, 7, 7, 7, 7, 100);
        due("36: 100 does not come", x.load(0), 5);
        due("36: it stays", x.wardOf(5, 1), 99);
        Check.sheet(x, 0, 16, 8, -1, 8);
        due("36: -1 does not come", x.load(0), 1);
        due("36: it came", x.wardOf(0, 1), 8);
        due("36: it stays", x.wardOf(1, 1), 7);
        due("36: nothing behind it", x.wardOf(2, 1), 7);
        Check.sheet(x, 0, 8, 100);
        due("36: none", x.load(0), 0);
        Check.sheet(x, 0, 32, MAX);
        due("36: none so far", x.load(0), 0);
        Check.sheet(x, 0, 8, 5);
        due("36: as many as it has", x.load(0), 1);
        due("37: no teapots, a number", x.judge(0), 1);
        x.sheet(0, 8, 0);
        due("37: no teapots, no number", x.judge(0), 0);
        PourElection y = eight();
        y.sheet(1, 16, 40);
        due("37: there is no 9th", y.judge(1), 9);
        y.sheet(1, 16, 9);
        due("37: there is no 9th", y.judge(1), 9);
        y.sheet(1, 16, 8);
        due("37: eight that are so", y.judge(1), 0);
        y.change(7, 5, 1);
        due("37: the 8th is not so", y.judge(1), 8);
        y.change(0, 5, 1);
        due("37: the first is told", y.judge(1), 1);
        y.sheet(1, 16, 0);
        due("37: none is asked", y.judge(1), 0);
        y.change(0, 4, 0);
        Check.sheet(y, 1, 16, 1);
        due("37: broken it has VOTES", y.judge(1), 0);
    }

    // ---- images

    private static void promises38To41() {
        PourElection x = new PourElection();
        due("38: of an empty borough", x.image(), 1);
        for (int t = 0; t < 8; t++) {
            x.teapot(URN, 90);
        }
        x.hold(9, 7);
        x.elect(20);
        Check.feed(x, "urn");
        x.sheet(0, 8, 1);
        due("39: DAY 0", x.undo(), 0);
        int[] count = {0, 0, 0, 0, 0, 3, 1, 0};
        for (int what = 0; what < 8; what++) {
            due("39: as it was, but the tape: " + what, x.count(what), count[what]);
        }
        for (int i = 0; i < 6; i++) {
            due("39: as at first", x.wardOf(i, 0) + x.wardOf(i, 1) + x.listed(i), 70 + i);
        }
        due("39: the teapots are gone", x.of(7, 0), Check.BEYOND);
        due("39: the spot is empty", x.as(9, 0), Check.MISSING);
        due("39: the sheet is there", x.judge(0), 1);
        due("39: again", x.undo(), 0);
        x.go(60);
        due("38: of day 60", x.image(), 1);
        x.go(60);
        due("39: DAY 60", x.undo(), 60);
        due("41: DAY 60", x.count(0), 60);
        due("40: it was kept", x.tear(), 1);
        due("40: it was torn already", x.tear(), 0);
        due("39: nothing is kept", x.undo(), Check.NONE);
        due("39: nothing has changed", x.count(0), 60);
        due("38: kept anew", x.image(), 1);
        due("39: DAY 60", x.undo(), 60);
        due("40: it stayed", x.tear(), 1);
    }

    private static void promise42() {
        PourElection x = new PourElection();
        for (int which = -1; which < 7; which++) {
            due("42: none yet", x.status(which), 0);
        }
        due("42: another one", x.status(7), Check.BEYOND);
        due("42: is counted from then on", x.status(0), 1);
        due("42: another one below", x.status(-2), Check.BEYOND);
        due("42: of all", x.status(-1), 2);
        x.image();
        x.undo();
        x.tear();
        x.undo();
        due("42: NONE", x.status(3), 1);
        due("42: undo() takes none back", x.status(-1), 3);
        due("42: a FAULT is none", x.text(), -1);
        due("42: nobody LEADS is none", x.go(1), -1);
        due("42: of all", x.status(-1), 3);
    }

    public static void main(String[] args) {
        findings();
        theList();
        meritOfTeapots();
        meritOfBrowns();
        cooling();
        wetting();
        trying();
        pouring();
        winning();
        filling();
        leading();
        draws();
        promises1To5();
        promises6To9();
        promises10And11();
        promises12To15();
        promise16();
        promises17And19();
        promise18();
        promise20();
        promise21();
        promises22And23();
        promise24();
        promise25();
        promises26And27();
        promises28And29();
        promise30Limits();
        promise30Ends();
        promise30Teapots();
        promises31And32();
        promise33();
        promise34();
        promise35();
        promises36And37();
        promises38To41();
        promise42();
        Check.end("EdgesTest");
    }
}
