/** The promises 1 to 42, each with ordinary inputs, edges and wrong inputs worked out by hand. */
public final class PromisesTest {
    private static final int BEYOND = Check.BEYOND;
    private static final int FULL = Check.FULL;
    private static final int KIND = Check.KIND;
    private static final int NONE = Check.NONE;
    private static final int STATE = Check.STATE;
    private static final int MISSING = Check.MISSING;
    private static final int SIZE = Check.SIZE;
    private static final int MIN = Integer.MIN_VALUE;
    private static final int MAX = Integer.MAX_VALUE;

    private static void due(String what, long got, long want) {
        Check.due(what, got, want);
    }

    private static void promise1() {
        PourElection x = new PourElection();
        int[] counts = {0, 0, 0, 0, 0, 0, 1, 0};
        for (int what = 0; what < 8; what++) {
            due("1: count " + what, x.count(what), counts[what]);
        }
        for (int i = 0; i < 6; i++) {
            due("1: voters", x.wardOf(i, 0), 10);
            due("1: taste", x.wardOf(i, 1), 60);
            due("1: winner", x.wardOf(i, 2), -1);
            due("1: listed", x.listed(i), i);
        }
        due("1: nothing was found", x.status(-1), 0);
        for (int spot = 0; spot < 10; spot++) {
            due("1: spot", x.as(spot, 0), MISSING);
        }
        for (int s = 0; s < 4; s++) {
            due("1: sheet", x.judge(s), MISSING);
        }
        due("1: no image", x.undo(), NONE);
        due("1: no image to tear", x.tear(), 0);
        due("1: no teapot", x.of(0, 0), BEYOND);
    }

    private static void promise2() {
        PourElection x = new PourElection();
        due("2: voters were", x.ward(3, 0, 99), 10);
        due("2: taste was", x.ward(3, 1, 0), 60);
        due("2: voters are", x.ward(3, 0, 0), 99);
        due("2: taste is", x.ward(3, 1, 99), 0);
        due("2: another ward stays", x.wardOf(2, 0), 10);
        due("2: its voters", x.wardOf(3, 0), 0);
        due("2: its taste", x.wardOf(3, 1), 99);
        int[][] wrong = {{-1, 0, 1}, {6, 0, 1}, {0, -1, 1}, {0, 2, 1}, {0, 0, -1}, {0, 0, 100},
            {0, 1, -1}, {0, 1, 100}, {MIN, MIN, MIN}, {MAX, MAX, MAX}};
        for (int[] w : wrong) {
            due("2: wrong", x.ward(w[0], w[1], w[2]), BEYOND);
        }
        due("2: unchanged voters", x.wardOf(0, 0), 10);
        due("2: unchanged taste", x.wardOf(0, 1), 60);
        due("2: all were counted", x.status(0), wrong.length);
    }

    private static void promise3() {
        PourElection x = Check.with(0, 2, 2);
        due("3: most merit wins, of two the least", x.wardOf(1, 2), 1);
        due("3: all alike: the least", x.wardOf(0, 2), 0);
        x.change(0, 2, 0);
        due("3: without a cup it does not win", x.wardOf(0, 2), 1);
        x.change(1, 4, 0);
        due("3: broken it does not win", x.wardOf(0, 2), 2);
        x.ward(0, 0, 0);
        due("3: without voters nobody", x.wardOf(0, 2), -1);
        x.ward(0, 0, 1);
        x.change(2, 4, 0);
        due("3: nobody", x.wardOf(0, 2), -1);
        due("3: voters", x.wardOf(0, 0), 1);
        due("3: taste", x.wardOf(5, 1), 60);
        due("3: a merit of 0 wins too", zeroMerit().wardOf(0, 2), 0);
        due("3: ward", x.wardOf(6, 0), BEYOND);
        due("3: ward below", x.wardOf(-1, 0), BEYOND);
        due("3: what", x.wardOf(0, 3), BEYOND);
        due("3: what below", x.wardOf(0, -1), BEYOND);
    }

    private static PourElection zeroMerit() {
        PourElection x = new PourElection();
        x.teapot(0, 0);
        x.change(0, 3, 9);
        x.ward(0, 1, 99);
        return x;
    }

    private static void promise4() {
        PourElection x = Check.with(0);
        due("4: was", x.trial(0, 5), 0);
        due("4: is", x.trial(0, 2), 5);
        due("4: last place", x.trial(5, 0), 5);
        x.ward(2, 0, 7);
        x.go(1);
        due("4: ward 2 tried", x.of(0, 5), 7);
        due("4: place above", x.trial(6, 0), BEYOND);
        due("4: place below", x.trial(-1, 0), BEYOND);
        due("4: ward above", x.trial(0, 6), BEYOND);
        due("4: ward below", x.trial(0, -1), BEYOND);
        due("4: unchanged", x.listed(0), 2);
    }

    private static void promise5() {
        PourElection x = new PourElection();
        x.trial(4, 1);
        due("5: told", x.listed(4), 1);
        due("5: at first", x.listed(5), 5);
        due("5: above", x.listed(6), BEYOND);
        due("5: below", x.listed(-1), BEYOND);
        due("5: far", x.listed(MIN), BEYOND);
    }

    private static void promise6() {
        PourElection x = new PourElection();
        due("6: kind below", x.teapot(-1, 0), BEYOND);
        due("6: kind above", x.teapot(7, 0), BEYOND);
        due("6: heat below", x.teapot(0, -1), BEYOND);
        due("6: heat above", x.teapot(0, 100), BEYOND);
        for (int i = 0; i < 8; i++) {
            due("6: number", x.teapot(i % 7, i == 0 ? 0 : 92 + i), i);
        }
        due("6: full", x.teapot(0, 0), FULL);
        due("6: beyond is asked first", x.teapot(7, 0), BEYOND);
        x.change(3, 4, 0);
        due("6: a broken one makes no room", x.teapot(0, 0), FULL);
        due("6: eight", x.count(1), 8);
        Check.of("6: the first", x, 0, 0, 0, 20, 0, 1, 0, 0);
        Check.of("6: the seventh", x, 6, 6, 98, 20, 0, 1, 0, 0);
        Check.of("6: the last", x, 7, 0, 99, 20, 0, 1, 0, 0);
    }

    private static void promise7() {
        PourElection x = Check.with(0, 1, 2, 3, 4, 5, 6);
        Check.of("7: teapot", x, 0, 0, 90, 20, 0, 1, 0, 0, 10, 0, 20);
        Check.of("7: brown", x, 1, 1, 90, 20, 0, 1, 0, 0, 8, 1, 40);
        Check.of("7: silver", x, 2, 2, 90, 20, 0, 1, 0, 0, 20, 1, 15);
        Check.of("7: cosy", x, 3, 3, 90, 20, 0, 1, 0, 0, 2, 1, 30);
        Check.of("7: rose", x, 4, 4, 90, 20, 0, 1, 0, 0, 1, 1, 6);
        Check.of("7: urn", x, 5, 5, 90, 20, 0, 1, 0, 0, 5, 0, 99);
        Check.of("7: gilt", x, 6, 6, 90, 20, 0, 1, 0, 0, 15, 1, 15);
        x.change(6, 1, 50);
        due("7: gilt of 50 wets", x.of(6, 8), 1);
        x.change(6, 1, 49);
        due("7: gilt of 49 does not", x.of(6, 8), 0);
        int[] wetsOnDay1 = {0, 0, 1, 0, 0, 0, 0};
        x.go(1);
        for (int i = 0; i < 7; i++) {
            due("7: wets on day 1", x.of(i, 8), wetsOnDay1[i]);
        }
        x.go(4);
        due("7: brown wets on day 5", x.of(1, 8), 1);
        due("7: cosy too", x.of(3, 8), 1);
        due("7: rose too", x.of(4, 8), 1);
        due("7: teapot", x.of(7, 0), BEYOND);
        due("7: teapot below", x.of(-1, 0), BEYOND);
        due("7: what", x.of(0, 10), BEYOND);
        due("7: what below", x.of(0, -1), BEYOND);
    }

    private static void promise8() {
        PourElection x = Check.with(2, 2);
        int[] top = {6, 99, 99, 9, 1, 99999, 9999};
        int[] were = {2, 90, 20, 0, 1, 0, 0};
        for (int what = 0; what < 7; what++) {
            due("8: was", x.change(0, what, top[what]), were[what]);
            due("8: above", x.change(0, what, top[what] + 1), BEYOND);
            due("8: below", x.change(0, what, -1), BEYOND);
            due("8: is", x.of(0, what), top[what]);
            due("8: down", x.change(0, what, 0), top[what]);
            due("8: is down", x.of(0, what), 0);
            due("8: the other stays", x.of(1, what), were[what]);
        }
        due("8: what", x.change(0, 7, 0), BEYOND);
        due("8: what below", x.change(0, -1, 0), BEYOND);
        due("8: teapot", x.change(2, 1, 0), BEYOND);
        due("8: teapot below", x.change(-1, 1, 0), BEYOND);
    }

    private static void promise9() {
        PourElection x = Check.with(0, 1, 2, 3, 4, 5, 6);
        int[] want = {60, 70, 75, 70, 35, 30, 73};
        int[] odd = {65, 75, 80, 75, 37, 32, 79};
        for (int i = 0; i < 7; i++) {
            x.change(i, 3, 2);
            due("9: in ward 3, kind " + i, x.merit(i, 3), want[i]);
            x.change(i, 3, 1);
            due("9: with less dribble, kind " + i, x.merit(i, 3), odd[i]);
        }
        x.change(1, 2, 10);
        due("9: as many cups as voters", x.merit(1, 0), 75);
        x.change(1, 2, 9);
        due("9: fewer cups than voters", x.merit(1, 0), 65);
        x.change(3, 2, 9);
        due("9: cosy with fewer", x.merit(3, 0), 65);
        x.change(4, 2, 9);
        due("9: rose with fewer", x.merit(4, 0), 32);
        x.change(4, 1, 60);
        x.change(4, 3, 9);
        due("9: rose just right", x.merit(4, 0), 150);
        x.change(4, 1, 61);
        due("9: rose a little hot", x.merit(4, 0), 27);
        x.change(0, 1, 20);
        due("9: too cold", x.merit(0, 0), 55);
        x.change(0, 4, 0);
        due("9: it need not stand", x.merit(0, 0), 55);
        due("9: ward 5", x.merit(2, 5), 90);
        promise9AtLeast();
        due("9: teapot", x.merit(7, 0), BEYOND);
        due("9: teapot below", x.merit(-1, 0), BEYOND);
        due("9: ward", x.merit(0, 6), BEYOND);
        due("9: ward below", x.merit(0, -1), BEYOND);
    }

    private static void promise9AtLeast() {
        PourElection x = Check.with(0, 1, 2, 3, 4, 5, 6);
        int[] want = {0, 10, 5, 10, 5, 0, 0};
        x.ward(1, 1, 99);
        x.ward(2, 1, 99);
        for (int i = 0; i < 7; i++) {
            x.change(i, 1, 0);
            x.change(i, 3, 9);
            due("9: at least 0, kind " + i, x.merit(i, 1), want[i]);
        }
        due("9: gilt in ward 2", x.merit(6, 2), 1);
    }

    private static void promise10() {
        PourElection x = Check.with(0);
        due("10: one leads", x.go(1), 0);
        Check.of("10: a day", x, 0, 0, 80, 10, 0, 1, 10, 1);
        x.go(1);
        Check.of("10: two days", x, 0, 0, 70, 0, 0, 1, 20, 2);
        x.go(3);
        Check.of("10: five days", x, 0, 0, 40, 0, 0, 1, 20, 2);
        x.go(1);
        Check.of("10: filled", x, 0, 0, 90, 20, 0, 1, 20, 2);
        due("10: day", x.now(0), 6);
        x.go(60);
        Check.of("10: eleven fillings", x, 0, 0, 90, 20, 0, 1, 220, 22);
        due("10: 0", x.go(0), BEYOND);
        due("10: below", x.go(-1), BEYOND);
        due("10: 61", x.go(61), BEYOND);
        due("10: unchanged", x.now(0), 66);
        due("10: nobody stands", new PourElection().go(60), -1);
        promise10Many();
        promise10Edges();
        promise10Cold();
    }

    private static void promise10Many() {
        PourElection x = Check.with(2, 1, 0, 6);
        x.change(1, 1, 61);
        x.change(2, 4, 0);
        x.change(3, 2, 4);
        x.change(3, 1, 49);
        due("10: brown leads", x.go(1), 1);
        Check.of("10: silver", x, 0, 2, 70, 10, 1, 1, 0, 0);
        Check.of("10: brown", x, 1, 1, 53, 10, 1, 1, 10, 1);
        Check.of("10: the broken one", x, 2, 0, 90, 20, 0, 0, 0, 0);
        Check.of("10: gilt", x, 3, 6, 34, 0, 0, 1, 0, 0);
        due("10: then", x.go(1), 1);
        Check.of("10: silver", x, 0, 2, 50, 0, 2, 1, 0, 0);
        Check.of("10: brown", x, 1, 1, 45, 0, 1, 1, 20, 2);
        Check.of("10: gilt pours no more", x, 3, 6, 19, 0, 0, 1, 0, 0);
        x.go(4);
        Check.of("10: silver is filled", x, 0, 2, 90, 15, 2, 1, 0, 0);
        Check.of("10: brown is filled", x, 1, 1, 90, 40, 1, 1, 20, 2);
        Check.of("10: the broken one is not", x, 2, 0, 90, 20, 0, 0, 0, 0);
        Check.of("10: gilt is filled", x, 3, 6, 90, 15, 0, 1, 0, 0);
    }

    private static void promise10Edges() {
        PourElection x = Check.with(2);
        x.change(0, 3, 9);
        x.change(0, 5, 99995);
        x.change(0, 6, 9999);
        x.go(1);
        Check.of("10: no further", x, 0, 2, 70, 10, 9, 1, 99999, 9999);
        PourElection y = Check.with(2);
        y.ward(0, 0, 0);
        due("10: without voters", y.go(1), 0);
        Check.of("10: nothing is poured", y, 0, 2, 70, 20, 0, 1, 0, 0);
        PourElection z = Check.with(2, 0);
        z.ward(0, 0, 25);
        z.go(1);
        Check.of("10: as far as it has any", z, 0, 2, 70, 0, 1, 1, 20, 1);
        Check.of("10: the other as well", z, 1, 0, 80, 0, 0, 1, 0, 0);
        PourElection one = Check.with(2);
        one.change(0, 2, 1);
        one.go(1);
        Check.of("10: one cup is enough", one, 0, 2, 70, 0, 1, 1, 1, 1);
        PourElection few = Check.with(2);
        few.ward(0, 0, 1);
        few.go(1);
        Check.of("10: one voter is enough", few, 0, 2, 70, 19, 1, 1, 1, 1);
        PourElection w = Check.with(1, 1);
        w.change(0, 2, 11);
        w.change(1, 2, 10);
        w.change(1, 1, 89);
        w.go(1);
        due("10: merit is as it was ahead of pouring", w.of(1, 6), 1);
    }

    private static void promise10Cold() {
        PourElection x = Check.with(0, 1, 2, 3, 4, 5, 6);
        x.go(1);
        int[] heats = {80, 82, 70, 88, 89, 85, 75};
        int[] dribbles = {0, 1, 1, 1, 1, 0, 1};
        for (int i = 0; i < 7; i++) {
            due("10: heat of kind " + i, x.of(i, 1), heats[i]);
            due("10: dribble of kind " + i, x.of(i, 3), dribbles[i]);
            x.change(i, 1, 1);
        }
        x.go(1);
        int[] then = {0, 1, 2, 1, 1, 0, 1};
        for (int i = 0; i < 7; i++) {
            due("10: no colder than 0, kind " + i, x.of(i, 1), 0);
            due("10: dribble on day 1 of kind " + i, x.of(i, 3), then[i]);
        }
        x.go(4);
        int[] holds = {20, 40, 15, 30, 6, 99, 15};
        for (int i = 0; i < 7; i++) {
            due("10: filled kind " + i, x.of(i, 2), holds[i]);
            due("10: hot again", x.of(i, 1), 90);
        }
    }

    /** No 512 calls reach day 99999, so this goes on behind them: it asks only our own program. */
    private static void promise10LastDays() {
        PourElection x = Check.with(0);
        for (int i = 0; i < 1666; i++) {
            x.go(60);
        }
        due("10: day 99960", x.now(0), 99960);
        due("10: too far", x.go(40), STATE);
        x.image();
        due("10: up to the last", x.go(39), 0);
        due("10: day 99999", x.now(0), 99999);
        x.undo();
        x.elect(20);
        due("25: day 99980", x.now(0), 99980);
        due("25: too far", x.elect(20), STATE);
        x.elect(19);
        due("25: day 99999", x.now(0), 99999);
        due("10: no day more", x.go(1), STATE);
        due("25: no day more", x.elect(1), STATE);
        due("10: BEYOND ahead of STATE", x.go(61), BEYOND);
        due("25: BEYOND ahead of STATE", x.elect(21), BEYOND);
        due("42: STATE", x.status(4), 4);
        due("10: unchanged", x.now(0), 99999);
        x.change(0, 4, 1);
        x.change(0, 1, 90);
        due("12: the last day comes again", x.ahead(0, 1, 9), 0);
    }

    private static void promise11() {
        PourElection x = new PourElection();
        int[] none = {0, -1, 0, 0, 0, 0, 0, -1};
        for (int what = 0; what < 8; what++) {
            due("11: of none " + what, x.now(what), none[what]);
        }
        x = Check.with(0, 1, 2, 3);
        x.change(0, 5, 7);
        x.change(0, 4, 0);
        x.change(0, 1, 99);
        x.change(1, 5, 3);
        x.change(2, 5, 3);
        x.change(1, 2, 45);
        x.change(0, 3, 4);
        x.change(3, 3, 2);
        x.change(3, 1, 91);
        x.change(2, 1, 91);
        x.ward(3, 0, 0);
        int[] want = {0, 1, 13, 85, 14, 55, 6, 2};
        for (int what = 0; what < 8; what++) {
            due("11: what " + what, x.now(what), want[what]);
        }
        x.go(7);
        due("11: day", x.now(0), 7);
        due("11: the first wins everywhere", Check.with(0).now(5), 63);
        for (int i = 0; i < 4; i++) {
            x.change(i, 2, 0);
        }
        due("11: no cup, no winner", x.now(5), 0);
        due("11: no cups", x.now(3), 0);
        x = Check.with(0, 0, 0, 0, 0, 0, 0, 0);
        int[] eight = {0, 0, 0, 160, 255, 63, 0, 0};
        for (int what = 0; what < 8; what++) {
            due("11: of eight " + what, x.now(what), eight[what]);
        }
        for (int i = 0; i < 6; i++) {
            x.trial(i, 2);
        }
        due("11: wards that no trial tells too", x.now(5), 63);
        due("11: above", x.now(8), BEYOND);
        due("11: below", x.now(-1), BEYOND);
    }

    private static void promise12() {
        PourElection x = Check.with(0);
        int[] heats = {90, 80, 70, 60, 50, 40, 90, 80};
        int[] cups = {20, 10, 0, 0, 0, 0, 20, 10};
        int[] votes = {0, 10, 20, 20, 20, 20, 20, 30};
        int[] won = {0, 1, 2, 2, 2, 2, 2, 3};
        for (int n = 0; n < 8; n++) {
            due("12: heat", x.ahead(0, 1, n), heats[n]);
            due("12: cups", x.ahead(0, 2, n), cups[n]);
            due("12: dribble", x.ahead(0, 3, n), 0);
            due("12: votes", x.ahead(0, 5, n), votes[n]);
            due("12: won", x.ahead(0, 6, n), won[n]);
        }
        due("12: behind 100", x.ahead(0, 5, 100), 340);
        due("12: nothing has changed", x.of(0, 1) + x.now(0), 90);
        due("12: kind", x.ahead(0, 0, 1), BEYOND);
        due("12: stands", x.ahead(0, 4, 1), BEYOND);
        due("12: what above", x.ahead(0, 7, 1), BEYOND);
        due("12: what below", x.ahead(0, -1, 1), BEYOND);
        due("12: teapot", x.ahead(1, 1, 1), BEYOND);
        due("12: teapot below", x.ahead(-1, 1, 1), BEYOND);
        due("12: days", x.ahead(0, 1, 101), BEYOND);
        due("12: days below", x.ahead(0, 1, -1), BEYOND);
    }

    /** The urn, with votes ahead, is overtaken by the teapot behind two days. */
    private static PourElection race() {
        PourElection x = Check.with(5, 0);
        x.change(0, 5, 15);
        return x;
    }

    private static void promise13() {
        PourElection x = race();
        due("13: now", x.leads(0), 0);
        due("13: behind one", x.leads(1), 0);
        due("13: behind two", x.leads(2), 1);
        due("13: behind a hundred", x.leads(100), 0);
        due("13: above", x.leads(101), BEYOND);
        due("13: below", x.leads(-1), BEYOND);
        due("13: nothing has changed", x.now(1), 0);
        x.change(0, 4, 0);
        due("13: of those that stand", x.leads(0), 1);
        x.change(1, 4, 0);
        due("13: nobody stands", x.leads(0), NONE);
        due("13: BEYOND ahead of NONE", x.leads(101), BEYOND);
        due("13: counted", x.status(3), 1);
    }

    private static void promise14() {
        PourElection x = race();
        due("14: at once", x.when(0), 0);
        due("14: behind two", x.when(1), 2);
        due("14: above", x.when(2), BEYOND);
        due("14: below", x.when(-1), BEYOND);
        x.change(0, 4, 0);
        due("14: broken", x.when(0), NONE);
        due("14: the other", x.when(1), 0);
        PourElection y = Check.with(0, 0);
        y.change(0, 5, 340);
        y.change(1, 1, 60);
        y.change(0, 2, 0);
        y.change(0, 3, 9);
        due("14: far off", y.when(1), 103);
        y.change(0, 5, 679);
        due("14: on day 200", y.when(1), 200);
        y.change(0, 5, 680);
        due("14: too far off", y.when(1), NONE);
        due("14: nothing has changed", y.now(0), 0);
    }

    private static void promise15() {
        PourElection x = Check.with(0);
        due("15: none", x.votes(0, 0), 0);
        due("15: a few", x.votes(0, 1), 1);
        due("15: as many", x.votes(0, 20), 2);
        due("15: more", x.votes(0, 21), 7);
        due("15: on day 200", x.votes(0, 680), 200);
        due("15: too many", x.votes(0, 681), NONE);
        PourElection y = Check.with(0);
        for (int i = 0; i < 6; i++) {
            y.ward(i, 0, 5);
        }
        due("15: the last that is asked", y.votes(0, 670), 200);
        due("15: only on day 201", y.votes(0, 671), NONE);
        due("15: most", x.votes(0, 99999), NONE);
        due("15: above", x.votes(0, 100000), BEYOND);
        due("15: below", x.votes(0, -1), BEYOND);
        due("15: teapot", x.votes(1, 0), BEYOND);
        due("15: teapot below", x.votes(-1, 0), BEYOND);
        due("15: nothing has changed", x.of(0, 5), 0);
    }

    private static void promise16() {
        due("16: no teapots", new PourElection().dry(), 0);
        PourElection x = Check.with(0);
        due("16: behind two", x.dry(), 2);
        x.teapot(5, 90);
        x.change(1, 2, 45);
        due("16: behind five", x.dry(), 5);
        x.change(1, 2, 99);
        due("16: never", x.dry(), NONE);
        x.change(1, 4, 0);
        due("16: of those that stand", x.dry(), 2);
        PourElection y = Check.with(1);
        y.change(0, 2, 99);
        due("16: behind a filling", y.dry(), 10);
        y.ward(0, 0, 0);
        y.trial(1, 0);
        due("16: never, if there is always a cup left to fill up", y.dry(), NONE);
        due("16: counted", x.status(3), 1);
    }

    private static void promise17() {
        PourElection x = Check.with(0, 0);
        due("17: as good", x.heatFor(0, 1), 30);
        due("17: better", x.heatFor(1, 1), 31);
        due("17: at once", x.heatFor(0, 0), 0);
        due("17: at once, the second", x.heatFor(1, 0), NONE);
        x.change(0, 1, 60);
        due("17: none is better", x.heatFor(1, 1), NONE);
        due("17: nothing has changed", x.of(1, 1), 90);
        due("17: teapot", x.heatFor(2, 1), BEYOND);
        due("17: teapot below", x.heatFor(-1, 1), BEYOND);
        due("17: days", x.heatFor(0, 61), BEYOND);
        due("17: days below", x.heatFor(0, -1), BEYOND);
        x.change(1, 4, 0);
        due("17: broken", x.heatFor(1, 60), NONE);
        PourElection y = Check.with(0, 0);
        y.ward(0, 1, 99);
        y.change(0, 1, 98);
        due("17: the hottest", y.heatFor(1, 1), 99);
        y.change(1, 2, 0);
        due("17: its cups stay", y.heatFor(1, 1), NONE);
        PourElection z = Check.with(0);
        z.change(0, 4, 0);
        due("17: no heat mends it", z.heatFor(0, 0), NONE);
    }

    private static void promise18() {
        PourElection x = Check.with(0);
        due("18: all alike", x.kindFor(0, 1), 0);
        due("18: at once", x.kindFor(0, 0), 0);
        due("18: brown and urn", x.kindFor(0, 10), 1);
        due("18: urn", x.kindFor(0, 12), 5);
        due("18: behind sixty", x.kindFor(0, 60), 5);
        due("18: nothing has changed", x.of(0, 0), 0);
        PourElection y = Check.with(6, 0);
        y.change(0, 1, 60);
        y.change(1, 1, 61);
        y.change(1, 0, 1);
        due("18: a rose is just right", y.kindFor(0, 1), 1);
        y.change(1, 5, 500);
        due("18: most votes though the other leads", y.kindFor(0, 1), 1);
        y.change(0, 2, 9);
        due("18: with few cups", y.kindFor(0, 1), 4);
        due("18: teapot", x.kindFor(1, 1), BEYOND);
        due("18: teapot below", x.kindFor(-1, 1), BEYOND);
        due("18: days", x.kindFor(0, 61), BEYOND);
        due("18: days below", x.kindFor(0, -1), BEYOND);
    }

    private static void promise19() {
        PourElection x = Check.with(0, 0);
        x.change(0, 1, 0);
        x.change(0, 5, 5);
        due("19: six cups", x.cupsFor(1, 1), 6);
        due("19: at once", x.cupsFor(1, 0), NONE);
        due("19: none is needed", x.cupsFor(0, 0), 0);
        due("19: none is enough", x.cupsFor(0, 1), NONE);
        x.change(0, 5, 9);
        due("19: ten cups", x.cupsFor(1, 1), 10);
        x.ward(0, 0, 99);
        x.change(0, 5, 98);
        due("19: all of 99 cups", x.cupsFor(1, 1), 99);
        due("19: nothing has changed", x.of(1, 2), 20);
        due("19: teapot", x.cupsFor(2, 1), BEYOND);
        due("19: teapot below", x.cupsFor(-1, 1), BEYOND);
        due("19: days", x.cupsFor(0, 61), BEYOND);
        due("19: days below", x.cupsFor(0, -1), BEYOND);
        x.change(0, 4, 0);
        x.change(1, 4, 0);
        due("19: no cups mend it", x.cupsFor(0, 0), NONE);
    }

    private static void promise20() {
        PourElection x = Check.with(0);
        x.ward(3, 0, 15);
        due("20: the most voters", x.tryFor(0, 1), 3);
        due("20: at once", x.tryFor(0, 0), 0);
        due("20: all alike", x.tryFor(0, 2), 0);
        x.go(2);
        due("20: nothing to pour", x.tryFor(0, 1), 0);
        x.go(4);
        due("20: another round", x.tryFor(0, 1), 3);
        due("20: nothing has changed", x.listed(0), 0);
        due("20: teapot", x.tryFor(1, 1), BEYOND);
        due("20: teapot below", x.tryFor(-1, 1), BEYOND);
        due("20: days", x.tryFor(0, 61), BEYOND);
        due("20: days below", x.tryFor(0, -1), BEYOND);
        promise20Place();
        promise20Today();
    }

    /** With 4 cups in it wards 2 and 4 are alike on this day, but not when their place comes again. */
    private static void promise20Place() {
        PourElection x = Check.with(5);
        x.change(0, 2, 4);
        for (int i = 0; i < 6; i++) {
            x.ward(i, 0, i == 4 ? 12 : i == 2 ? 4 : 0);
            x.trial(i, 0);
        }
        due("20: alike", x.tryFor(0, 1), 2);
        due("20: in its place on day 6 too", x.tryFor(0, 7), 4);
        x.go(1);
        due("20: on day 1, place 1", x.tryFor(0, 1), 2);
        x.trial(1, 4);
        due("20: its own place is told anew", x.tryFor(0, 1), 2);
    }

    /** Ward 2 is worth 15 on day 0; ward 0 is worth 12, and 8 more only if it tried on day 1 too. */
    private static void promise20Today() {
        PourElection x = Check.with(0, 2);
        x.change(0, 1, 60);
        x.change(1, 1, 80);
        for (int i = 0; i < 6; i++) {
            x.ward(i, 0, i == 0 ? 12 : i == 2 ? 15 : 0);
        }
        x.ward(0, 1, 0);
        due("20: on this day alone", x.tryFor(0, 2), 2);
        x.trial(1, 0);
        due("20: the next day's place stays", x.tryFor(0, 2), 0);
    }

    private static void promise21() {
        PourElection x = Check.with(0, 0, 0);
        x.change(0, 1, 60);
        x.change(1, 1, 60);
        due("21: both others", x.smash(2, 1), 3);
        due("21: one", x.smash(1, 1), 1);
        due("21: none", x.smash(0, 1), 0);
        due("21: at once", x.smash(2, 0), 3);
        x.change(2, 4, 0);
        due("21: broken", x.smash(2, 1), NONE);
        due("21: nothing has changed", x.now(4), 3);
        due("21: teapot", x.smash(3, 1), BEYOND);
        due("21: teapot below", x.smash(-1, 1), BEYOND);
        due("21: days", x.smash(0, 21), BEYOND);
        due("21: days below", x.smash(0, -1), BEYOND);
        due("21: twenty", x.smash(0, 20), 0);
        promise21Eight();
        promise21Fewest();
        promise21Broken();
        promise21Least();
    }

    /**
     * Day 0 is won by 0, then 1, then 3, with 5 cups by the first two; day 1 by 2, with 5 cups, then 3.
     * Without 0 and 1 (the lesser set) teapot 3 has 10 votes, and without 2 alone (the fewer) too.
     */
    private static void promise21Fewest() {
        PourElection x = Check.with(0, 0, 0, 0);
        int[] heats = {90, 85, 70, 80};
        int[] cups = {5, 5, 15, 20};
        for (int i = 0; i < 4; i++) {
            x.change(i, 1, heats[i]);
            x.change(i, 2, cups[i]);
        }
        x.ward(0, 1, 90);
        due("21: fewer ahead of a lesser set", x.smash(3, 2), 4);
        x.change(2, 5, 10);
        due("21: as many votes by a lesser number, so all three", x.smash(3, 1), 7);
        x.change(2, 5, 0);
        x.change(0, 2, 20);
        due("21: of two pairs the lesser set", x.smash(3, 2), 3);
    }

    /** Were the broken one with a single cup (bit 2) to stand, it would take the day from both others. */
    private static void promise21Broken() {
        PourElection x = Check.with(0, 0, 0, 0);
        int[] heats = {70, 70, 60, 90};
        int[] votes = {10, 10, 0, 15};
        for (int i = 0; i < 4; i++) {
            x.change(i, 1, heats[i]);
            x.change(i, 5, votes[i]);
        }
        x.change(2, 2, 1);
        due("21: as it stands nobody must go", x.smash(3, 1), 0);
        x.change(2, 4, 0);
        due("21: a broken one stays broken", x.smash(3, 1), 3);
    }

    private static void promise21Eight() {
        PourElection x = Check.with(0, 0, 0, 0, 0, 0, 0, 0);
        x.change(7, 1, 60);
        due("21: the one that wins", x.smash(0, 1), 128);
        due("21: those ahead of it too", x.smash(2, 1), 131);
        x.change(1, 4, 0);
        due("21: but not the broken one", x.smash(2, 1), 129);
        x.change(7, 5, 99999);
        x.change(2, 5, 50);
        due("21: then it leads by votes", x.smash(2, 20), 129);
        due("21: at once", x.smash(2, 0), 128);
    }

    /** Teapot 2 leads as soon as either of the others leaves it one ward. */
    private static void promise21Least() {
        PourElection x = Check.with(0, 0, 0);
        int[] heats = {60, 80, 70};
        int[] votes = {10, 10, 15};
        for (int i = 0; i < 3; i++) {
            x.change(i, 1, heats[i]);
            x.change(i, 5, votes[i]);
        }
        x.ward(1, 1, 75);
        due("21: of two that would do the least", x.smash(2, 2), 1);
        x.change(0, 5, 99);
        due("21: only the first would do", x.smash(2, 2), 1);
        x.change(0, 5, 10);
        x.change(1, 5, 99);
        due("21: only the second would do", x.smash(2, 2), 2);
    }

    private static void promise22() {
        PourElection x = Check.with(0);
        due("22: alone", x.liked(0, 0), 100);
        x.teapot(0, 80);
        due("22: the hotter", x.liked(0, 0), 15);
        due("22: the cooler", x.liked(1, 5), 85);
        x.teapot(4, 80);
        due("22: just right", x.liked(2, 2), 1);
        due("22: nothing has changed", x.wardOf(2, 1), 60);
        x.change(0, 2, 0);
        due("22: no cup", x.liked(0, 0), 0);
        x.ward(1, 0, 0);
        due("22: no voters", x.liked(1, 1), 0);
        due("22: teapot", x.liked(3, 0), BEYOND);
        due("22: teapot below", x.liked(-1, 0), BEYOND);
        due("22: ward", x.liked(0, 6), BEYOND);
        due("22: ward below", x.liked(0, -1), BEYOND);
    }

    private static void promise23() {
        PourElection x = Check.with(0, 0);
        x.change(1, 1, 80);
        due("23: sheet missing", x.fits(0, 0, 0), MISSING);
        due("23: missing ahead of teapot", x.fits(0, 9, 9), MISSING);
        due("23: sheet above", x.fits(4, 9, 9), BEYOND);
        due("23: sheet below", x.fits(-1, 0, 0), BEYOND);
        Check.sheet(x, 0, 16);
        due("23: nothing asked", x.fits(0, 0, 0), 100);
        Check.sheet(x, 0, 16, 0, 1);
        due("23: it wins", x.fits(0, 0, 0), 15);
        due("23: another ward", x.fits(0, 0, 1), 0);
        Check.sheet(x, 0, 8, 0, 0);
        due("23: it does not win", x.fits(0, 0, 0), 85);
        Check.sheet(x, 0, 8, 0, 255);
        due("23: any", x.fits(0, 0, 0), 100);
        Check.sheet(x, 0, 32, 1);
        due("23: not so now", x.fits(0, 0, 0), 0);
        Check.sheet(x, 0, 32, -1, -2);
        due("23: -2 is no any", x.fits(0, 0, 0), 0);
        Check.sheet(x, 3, 32, -1, -1, -1, -1, -1, -1, -1, -1, -1, -1, -1, -1, 77);
        due("23: the 13th is not asked", x.fits(3, 0, 0), 100);
        x.write(3, 11, 77);
        due("23: the 12th is", x.fits(3, 0, 0), 0);
        due("23: teapot", x.fits(3, 2, 0), BEYOND);
        due("23: teapot below", x.fits(3, -1, 0), BEYOND);
        due("23: ward", x.fits(3, 0, 6), BEYOND);
        due("23: ward below", x.fits(3, 0, -1), BEYOND);
        due("23: nothing has changed", x.wardOf(0, 1) + x.of(0, 6), 60);
        promise23NextRound();
    }

    /** A rose beats a teapot only where it is just right: of HEAT 60 on day 0, filled with 90 on day 6. */
    private static void promise23NextRound() {
        PourElection x = Check.with(4, 0);
        for (int i = 0; i < 6; i++) {
            x.ward(i, 0, i == 0 ? 10 : 0);
        }
        x.change(0, 1, 60);
        x.change(1, 1, 60);
        Check.sheet(x, 0, 8, 0, -1, -1, -1, -1, -1, -1, 1);
        due("23: 60 or 90", x.fits(0, 0, 0), 2);
        x.write(0, 1, 0);
        due("23: only 90, on day 6 too", x.fits(0, 0, 0), 1);
        x.write(0, 1, 1);
        due("23: only 60", x.fits(0, 0, 0), 1);
        x.write(0, 7, 2);
        due("23: both at once can't be", x.fits(0, 0, 0), 0);
        Check.sheet(x, 0, 8, 0, 0, -1, -1, -1, -1, -1, 0);
        due("23: neither", x.fits(0, 0, 0), 98);
    }

    private static void promise24() {
        PourElection x = Check.with(0);
        due("24: sheet missing", x.kinds(3, 0), MISSING);
        due("24: missing ahead of teapot", x.kinds(3, 5), MISSING);
        due("24: sheet above", x.kinds(4, 0), BEYOND);
        due("24: sheet below", x.kinds(-1, 0), BEYOND);
        int[] heats = {80, 82, 70, 88, 89, 85, 75};
        for (int kind = 0; kind < 7; kind++) {
            Check.sheet(x, 3, 8, 90, heats[kind]);
            due("24: kind " + kind, x.kinds(3, 0), 1 << kind);
        }
        Check.sheet(x, 3, 8, 90, -1);
        due("24: any", x.kinds(3, 0), 127);
        Check.sheet(x, 3, 8, 89);
        due("24: not so now", x.kinds(3, 0), 0);
        Check.sheet(x, 3, 8);
        due("24: nothing asked", x.kinds(3, 0), 127);
        x.sheet(3, 16, 40);
        for (int i = 0; i < 40; i++) {
            x.write(3, i, i % 6 == 0 ? 90 : -1);
        }
        due("24: filled anew", x.kinds(3, 0), 127);
        x.write(3, 39, 60);
        due("24: the 40th is asked", x.kinds(3, 0), 1);
        x.write(3, 39, 30);
        due("24: silver's 40th", x.kinds(3, 0), 4);
        x.change(0, 4, 0);
        due("24: broken it does not cool", x.kinds(3, 0), 0);
        due("24: teapot", x.kinds(3, 1), BEYOND);
        due("24: teapot below", x.kinds(3, -1), BEYOND);
        due("24: nothing has changed", x.of(0, 0), 0);
    }

    private static void promise25() {
        PourElection x = Check.with(0, 0, 0, 0, 0);
        x.change(4, 1, 33);
        x.ward(2, 0, 7);
        due("25: one", x.elect(1), 0);
        due("25: z", x.count(6), 662824084);
        due("25: trial", x.listed(0), 2);
        due("25: taste", x.wardOf(2, 1), 32);
        due("25: 4 does not stand", x.of(4, 4), 0);
        due("25: the day has gone by", x.now(0), 1);
        due("25: votes", x.of(0, 5), 7);
        due("25: two more", x.elect(2), 0);
        due("25: trial 1", x.listed(1), 5);
        due("25: taste 5", x.wardOf(5, 1), 87);
        due("25: trial 2", x.listed(2), 4);
        due("25: taste 4", x.wardOf(4, 1), 46);
        due("25: 4 stood and broke again", x.of(4, 4), 0);
        due("25: z then", x.count(6), -1084965762);
        due("25: day", x.now(0), 3);
        due("25: 0", x.elect(0), BEYOND);
        due("25: below", x.elect(-1), BEYOND);
        due("25: 21", x.elect(21), BEYOND);
        due("25: no draw", x.count(6), -1084965762);
        due("25: 20", x.elect(20) >= -1 ? 1 : 0, 1);
        due("25: day 23", x.now(0), 23);
        PourElection y = new PourElection();
        due("25: no teapots", y.elect(1), -1);
        due("25: draws all the same", y.count(6), 662824084);
    }

    private static void promise26() {
        PourElection x = Check.with(0);
        x.teapot(0, 80);
        due("26: 9 of 400", x.odds(0, 0, 2, 0), 9);
        due("26: below", x.odds(0, 0, 2, 1), 400);
        due("26: the ninth", x.odds(0, 0, 9, 0), 19683);
        due("26: below", x.odds(0, 0, 9, 1), 512000000000L);
        due("26: once", x.odds(1, 3, 1, 0), 17);
        due("26: below", x.odds(1, 3, 1, 1), 20);
        due("26: by none", x.odds(0, 0, 0, 0), 1);
        due("26: below", x.odds(0, 0, 0, 1), 1);
        x.change(0, 1, 99);
        x.change(1, 1, 98);
        due("26: one of 100", x.odds(0, 0, 9, 0), 1);
        due("26: below, a long", x.odds(0, 0, 9, 1), 1000000000000000000L);
        due("26: 99 of 100", x.odds(1, 0, 9, 0), 913517247483640899L);
        x.change(0, 1, 98);
        x.change(1, 1, 97);
        due("26: two of 100", x.odds(0, 0, 1, 0), 1);
        due("26: below", x.odds(0, 0, 1, 1), 50);
        x.change(0, 4, 0);
        due("26: never", x.odds(0, 0, 3, 0), 0);
        due("26: below", x.odds(0, 0, 3, 1), 1);
        due("26: never, by none", x.odds(0, 0, 0, 0), 1);
        due("26: always", x.odds(1, 0, 9, 0), 1);
        due("26: below", x.odds(1, 0, 9, 1), 1);
        int[][] wrong = {{2, 0, 1, 0}, {-1, 0, 1, 0}, {0, 6, 1, 0}, {0, -1, 1, 0}, {0, 0, 10, 0},
            {0, 0, -1, 0}, {0, 0, 1, 2}, {0, 0, 1, -1}};
        for (int[] w : wrong) {
            due("26: wrong", x.odds(w[0], w[1], w[2], w[3]), BEYOND);
        }
        due("26: nothing has changed", x.wardOf(0, 1), 60);
        due("26: no draw", x.count(6), 1);
        due("26: counted", x.status(0), wrong.length);
    }

    private static void promise27() {
        PourElection x = new PourElection();
        due("27: at first", x.seed(MIN), 1);
        due("27: then", x.seed(BEYOND), MIN);
        due("27: no finding", x.seed(0), BEYOND);
        due("27: not counted", x.status(-1), 0);
        x.elect(1);
        due("27: draws go on from it", x.seed(1), drawnThrice(0));
    }

    private static int drawnThrice(int z) {
        for (int i = 0; i < 3; i++) {
            z = z * 1103515245 + 12345;
        }
        return z;
    }

    private static void promise28() {
        PourElection x = new PourElection();
        due("28: no bytes", x.feed(65, 0), BEYOND);
        due("28: five", x.feed(65, 5), BEYOND);
        due("28: below", x.feed(65, -1), BEYOND);
        due("28: urn;", x.feed(1970433595, 4), 4);
        due("28: rn of urn", x.feed(0x7fff756e, 1), 5);
        due("28: fault at its n", x.text(), -5);
        x.feed(0x11227572, 2);
        due("28: the lowest bytes, the highest first", x.feed(0xff6e3b75, 3), 5);
        x.feed('r', 1);
        x.feed('n', 1);
        due("28: urn;urn", x.text(), 2);
        for (int i = 1; i <= 29; i++) {
            due("28: four more", x.feed(MIN, 4), 4 * i);
        }
        due("28: 119", x.feed(0, 3), 119);
        due("28: full", x.feed(0, 2), FULL);
        due("28: nothing came", x.count(5), 119);
        due("28: 120", x.feed(0, 1), 120);
        due("28: full for one", x.feed(0, 1), FULL);
        due("28: BEYOND ahead of FULL", x.feed(0, 5), BEYOND);
    }

    private static void promise29() {
        PourElection x = new PourElection();
        due("29: empty", x.wipe(), 0);
        Check.feed(x, "gilt");
        due("29: four", x.wipe(), 4);
        due("29: empty again", x.count(5), 0);
        due("29: nothing to read", x.text(), -1);
    }

    private static void promise30() {
        PourElection x = new PourElection();
        due("30: three items", Check.read(x,
            "rose heat 60 cups 6 dribble 9 votes 99999 broken;ward 5 voters 99 taste 0;trial 0 5"), 3);
        Check.of("30: rose", x, 0, 4, 60, 6, 9, 0, 99999, 0);
        due("30: voters", x.wardOf(5, 0), 99);
        due("30: taste", x.wardOf(5, 1), 0);
        due("30: trial", x.listed(0), 5);
        due("30: the tape is empty", x.count(5), 0);
        due("30: blanks or none", Check.read(x, "  urn   ; brown cups0 votes  007;ward3;ward4taste05  "), 4);
        Check.of("30: urn as at first", x, 1, 5, 90, 20, 0, 1, 0, 0);
        Check.of("30: brown", x, 2, 1, 90, 0, 0, 1, 7, 0);
        due("30: taste alone", x.wardOf(4, 1), 5);
        due("30: voters stay", x.wardOf(4, 0), 10);
        due("30: a taste of 99", Check.read(x, "ward 1 taste 99"), 1);
        due("30: is so", x.wardOf(1, 1), 99);
        due("30: item by item", Check.read(x, "ward 0 taste 1;ward 0 taste 2;trial 1 1;trial 1 2"), 4);
        due("30: the later", x.wardOf(0, 1), 2);
        due("30: the later trial", x.listed(1), 2);
        due("30: all kinds", Check.read(x, "teapot;silver;cosy;gilt;rose"), 5);
        int[] kinds = {4, 5, 1, 0, 2, 3, 6, 4};
        for (int i = 0; i < 8; i++) {
            due("30: kind", x.of(i, 0), kinds[i]);
        }
        due("30: a ninth", Check.read(x, "ward 0 taste 7; urn"), -17);
        due("30: nothing of it stands", x.wardOf(0, 1), 2);
        due("30: no finding", x.status(-1), 0);
        promise30Image();
        promise30Faults();
    }

    private static void promise30Image() {
        PourElection x = Check.with(0);
        x.image();
        due("30: read behind an image", Check.read(x, "urn;ward 0 taste 7"), 2);
        due("30: it stands", x.count(1), 2);
        x.undo();
        due("30: what was kept has no urn", x.count(1), 1);
        due("30: nor the taste", x.wardOf(0, 1), 60);
        due("30: a fault", Check.read(x, "urn;ward 0 taste 7;"), -20);
        x.undo();
        due("30: nor by a fault", x.count(1) + x.wardOf(0, 1), 61);
    }

    private static void fault(String text, int place) {
        PourElection x = Check.with(0, 0, 0, 0, 0, 0);
        due("30: fault in '" + text + "'", Check.read(x, text), -1 - place);
        due("30: the tape is empty", x.count(5), 0);
        due("30: no teapot more", x.count(1), 6);
        due("30: no finding", x.status(-1), 0);
        for (int i = 0; i < 6; i++) {
            due("30: unchanged", x.wardOf(i, 0) + x.wardOf(i, 1) + x.listed(i), 70 + i);
        }
    }

    private static void promise30Faults() {
        fault("", 0);
        fault("   ", 3);
        fault(" ".repeat(120), 120);
        fault("u".repeat(120), 0);
        fault("urn" + " ".repeat(116) + "9", 119);
        fault("urn votes " + "9".repeat(110), 10);
        fault(";", 0);
        fault("7", 0);
        fault("urns", 0);
        fault("urnz", 0);
        fault("urna", 0);
        fault("orn", 0);
        fault("urn cats 1", 4);
        fault("wars 1", 0);
        fault("Urn", 0);
        fault("uRn", 0);
        fault("urnN", 3);
        fault("urn;", 4);
        fault("urn; ", 5);
        fault("urn;;urn", 4);
        fault("urn urn", 4);
        fault("urn 7", 4);
        fault("urn,urn", 3);
        fault("urn\turn", 3);
        fault("urn\u00e9", 3);
        fault("urn\u0000", 3);
        fault("urn heat", 8);
        fault("urn heat;", 8);
        fault("urn heat 100", 9);
        fault("urn heat -1", 9);
        fault("urn heat cups 1", 9);
        fault("urn heat 1 2", 11);
        fault("urn heat 1 heat 2", 11);
        fault("urn cups 100", 9);
        fault("urn cups 9 heat 9", 11);
        fault("urn dribble 10", 12);
        fault("urn votes 100000", 10);
        fault("urn votes 99999999999999999999", 10);
        fault("urn votes 4294967296", 10);
        fault("urn broken broken", 11);
        fault("urn broken votes 1", 11);
        fault("urn brokenx", 4);
        fault("urn heat 5_", 10);
        fault("urn voters 1", 4);
        fault("urn taste 1", 4);
        fault("urn;urn;urn", 8);
        fault("urn;urn;ward 0 taste 1;gilt", 23);
        fault("ward", 4);
        fault("ward 6", 5);
        fault("ward x", 5);
        fault("ward 5 5", 7);
        fault("ward 5 voters", 13);
        fault("ward 5 voters 100", 14);
        fault("ward 5 taste 100", 13);
        fault("ward 5 taste 1 voters 1", 15);
        fault("ward 5 voters 1 voters 1", 16);
        fault("ward 5 broken", 7);
        fault("ward 5 heat 1", 7);
        fault("ward 5 taste 1 broken", 15);
        fault("trial 5 5 broken", 10);
        fault("wards 5", 0);
        fault("trial", 5);
        fault("trial 6 0", 6);
        fault("trial 5", 7);
        fault("trial 5;", 7);
        fault("trial 5 6", 8);
        fault("trial 5 5 5", 10);
        fault("trial 0 1;ward 0 voters 1;urn;#", 30);
    }

    private static void promise31() {
        PourElection x = Check.with(0, 0);
        due("31: spot 0", x.hold(0, 1), 1);
        due("31: spot 9", x.hold(9, 0), 1);
        due("31: holds", x.as(0, 0), 1);
        due("31: two", x.count(7), 2);
        due("31: nothing", x.hold(0, -1), 1);
        due("31: holds nothing", x.as(0, 0), MISSING);
        due("31: one", x.count(7), 1);
        due("31: spot above", x.hold(10, 0), BEYOND);
        due("31: spot below", x.hold(-1, 0), BEYOND);
        due("31: teapot above", x.hold(9, 2), BEYOND);
        due("31: teapot below", x.hold(9, -2), BEYOND);
        due("31: unchanged", x.as(9, 0), 0);
    }

    private static void promise32() {
        int[] under = {127, 1 << 1 | 1 << 3 | 1 << 4, 1 << 2 | 1 << 6, 1 << 3 | 1 << 4, 1 << 4, 1 << 5, 1 << 6};
        PourElection x = Check.with(0, 1, 2, 3, 4, 5, 6);
        for (int i = 0; i < 7; i++) {
            x.hold(i, i);
            for (int kind = 0; kind < 7; kind++) {
                boolean isSo = (under[kind] >> i & 1) == 1;
                due("32: " + i + " as " + kind, x.as(i, kind), isSo ? i : KIND);
            }
        }
        x.change(0, 0, 6);
        due("32: of another kind now", x.as(0, 2), 0);
        due("32: nothing there", x.as(7, 0), MISSING);
        due("32: BEYOND ahead of MISSING", x.as(7, 7), BEYOND);
        due("32: kind below", x.as(0, -1), BEYOND);
        due("32: kind above", x.as(0, 7), BEYOND);
        due("32: spot above", x.as(10, 0), BEYOND);
        due("32: spot below", x.as(-1, 0), BEYOND);
    }

    private static void promise33() {
        PourElection x = new PourElection();
        due("33: forty", x.sheet(0, 8, 40), 40);
        due("33: last number", x.write(0, 39, 1), 1);
        due("33: anew", x.sheet(0, 16, 40), 40);
        due("33: all 0", x.load(0), 6);
        due("33: the last taste is 0", x.wardOf(5, 1), 0);
        due("33: none", x.sheet(3, 32, 0), 0);
        due("33: not missing", x.judge(3), 0);
        due("33: bits 0", x.sheet(0, 0, 5), 0);
        due("33: missing", x.judge(0), MISSING);
        int[][] wrong = {{4, 8, 1}, {-1, 8, 1}, {0, 7, 1}, {0, 64, 1}, {0, -8, 1}, {0, 24, -1}, {4, 8, -1},
            {0, 8, 41}, {0, 0, 41}, {0, 32, MAX}};
        for (int[] w : wrong) {
            due("33: beyond", x.sheet(w[0], w[1], w[2]), BEYOND);
        }
        due("33: size", x.sheet(3, 8, -1), SIZE);
        due("33: size with bits 0", x.sheet(3, 0, -1), SIZE);
        due("33: size far below", x.sheet(3, 16, MIN), SIZE);
        due("33: unchanged", x.judge(3), 0);
        due("33: counted", x.status(6), 3);
        x.sheet(2, 8, 2);
        x.write(2, 0, 9);
        x.sheet(2, 8, 2);
        x.ward(0, 1, 50);
        x.load(2);
        due("33: all 0 anew", x.wardOf(0, 1), 0);
    }

    /** Number i of a sheet, asked by trying which VOTES, or which TASTE, it is. */
    private static boolean isNumber(PourElection x, int s, int v) {
        x.change(0, 5, v);
        return x.judge(s) == 0;
    }

    private static void promise34() {
        PourElection x = Check.with(0);
        due("34: missing", x.write(0, 0, 1), MISSING);
        due("34: missing ahead of number", x.write(0, -1, 1), MISSING);
        due("34: sheet above", x.write(4, 0, 1), BEYOND);
        due("34: sheet below", x.write(-1, 0, 1), BEYOND);
        x.sheet(0, 8, 1);
        due("34: wrote", x.write(0, 0, 0x12345), 1);
        Check.holds("34: 8 bits", isNumber(x, 0, 0x45));
        due("34: 255", x.write(0, 0, 255), 1);
        due("34: of 8 bits it is -1: any", x.kinds(0, 0), 127);
        x.write(0, 0, 128);
        Check.holds("34: no 128 of 8 bits", !isNumber(x, 0, 128));
        x.sheet(0, 16, 1);
        x.write(0, 0, 0x12345);
        Check.holds("34: 16 bits", isNumber(x, 0, 0x2345));
        x.write(0, 0, 65535);
        due("34: of 16 bits it is -1: any", x.kinds(0, 0), 127);
        x.sheet(0, 32, 1);
        x.write(0, 0, 65535);
        Check.holds("34: 32 bits", isNumber(x, 0, 65535));
        due("34: a number above", x.write(0, 1, 1), BEYOND);
        due("34: a number below", x.write(0, -1, 1), BEYOND);
        x.sheet(0, 32, 0);
        due("34: it has none", x.write(0, 0, 1), BEYOND);
    }

    private static void tastes(String what, PourElection x, int s, int... want) {
        x.load(s);
        for (int i = 0; i < want.length; i++) {
            due(what, x.wardOf(i, 1), want[i]);
        }
    }

    private static void promise35() {
        PourElection x = new PourElection();
        Check.sheet(x, 0, 8, 1, 2, 3, 4, 5, 6);
        Check.sheet(x, 1, 8, 11, 12, 13);
        x.sheet(2, 16, 6);
        due("35: two", x.copy(1, 1, 0, 4, 2), 2);
        tastes("35: came", x, 0, 1, 2, 3, 4, 12, 13);
        due("35: up", x.copy(0, 0, 0, 1, 5), 5);
        tastes("35: as they were", x, 0, 1, 1, 2, 3, 4, 12);
        due("35: down", x.copy(0, 1, 0, 0, 5), 5);
        tastes("35: as they were", x, 0, 1, 2, 3, 4, 12, 12);
        due("35: all", x.copy(1, 0, 0, 0, 3), 3);
        due("35: none at the end", x.copy(1, 3, 0, 6, 0), 0);
        tastes("35: all came", x, 0, 11, 12, 13, 4, 12, 12);
        int[][] wrong = {{0, -1, 1, 0, 1}, {0, 0, 1, -1, 1}, {0, 0, 1, 0, -1}, {0, 0, 1, 0, 4}, {0, 4, 1, 0, 3},
            {1, 0, 0, 4, 3}, {1, 4, 0, 0, 0}, {1, 0, 0, 7, 0}, {0, MAX, 1, 0, MAX}, {0, 1, 1, MAX, MAX},
            {0, 0, 1, 0, MIN}, {0, 1, 1, 0, MAX}, {4, 0, 0, 0, 1}, {-1, 0, 0, 0, 1}, {0, 0, 4, 0, 1},
            {0, 0, -1, 0, 1}, {3, 0, 4, 0, 1}};
        for (int[] w : wrong) {
            due("35: beyond", x.copy(w[0], w[1], w[2], w[3], w[4]), BEYOND);
        }
        due("35: other bits", x.copy(0, 0, 2, 0, 1), KIND);
        due("35: KIND ahead of the numbers", x.copy(2, -1, 1, 0, 1), KIND);
        due("35: missing", x.copy(3, 0, 0, 0, 1), MISSING);
        due("35: missing either", x.copy(0, 0, 3, 0, 1), MISSING);
        due("35: missing itself", x.copy(3, 0, 3, 0, 0), MISSING);
        tastes("35: unchanged", x, 0, 11, 12, 13, 4, 12, 12);
    }

    private static void promise36() {
        PourElection x = new PourElection();
        due("36: missing", x.load(1), MISSING);
        due("36: the last is missing too", x.load(3), MISSING);
        due("36: above", x.load(4), BEYOND);
        due("36: below", x.load(-1), BEYOND);
        Check.sheet(x, 1, 16, 99, 0, 5, 6, 7, 8, 9);
        due("36: as many as there are wards", x.load(1), 6);
        due("36: first", x.wardOf(0, 1), 99);
        due("36: last", x.wardOf(5, 1), 8);
        Check.sheet(x, 1, 16, 1, 2, 100, 3);
        due("36: up to 100", x.load(1), 2);
        due("36: came", x.wardOf(1, 1), 2);
        due("36: stays", x.wardOf(2, 1), 5);
        due("36: does not come", x.wardOf(3, 1), 6);
        Check.sheet(x, 1, 16, -1, 2);
        due("36: none", x.load(1), 0);
        Check.sheet(x, 1, 16);
        due("36: empty", x.load(1), 0);
        due("36: as it was", x.wardOf(0, 1), 1);
        Check.sheet(x, 1, 8, 77);
        due("36: one", x.load(1), 1);
    }

    private static void promise37() {
        PourElection x = Check.with(0, 0, 0);
        due("37: missing", x.judge(2), MISSING);
        due("37: above", x.judge(4), BEYOND);
        due("37: below", x.judge(-1), BEYOND);
        x.change(0, 5, 5);
        x.change(1, 5, 99999);
        Check.sheet(x, 2, 32, 5, 99999, 0);
        due("37: all are so", x.judge(2), 0);
        Check.sheet(x, 2, 32, 5, 99999);
        due("37: of the first two", x.judge(2), 0);
        Check.sheet(x, 2, 32, 5, 99999, 0, 0);
        due("37: there is no fourth", x.judge(2), 4);
        Check.sheet(x, 2, 32, 5, -1, 1);
        due("37: the second is not", x.judge(2), 2);
        Check.sheet(x, 2, 32, 6, -1, 1);
        due("37: the first is not", x.judge(2), 1);
        Check.sheet(x, 2, 32);
        due("37: none asked", x.judge(2), 0);
    }

    private static void promise38() {
        PourElection x = Check.with(0);
        due("38: kept", x.image(), 1);
        x.teapot(1, 1);
        due("38: kept anew", x.image(), 1);
        x.teapot(2, 2);
        due("38: the later", x.undo(), 0);
        due("38: two teapots", x.count(1), 2);
        due("38: of the later", x.of(1, 1), 1);
    }

    private static void promise39() {
        PourElection x = Check.with(0, 2);
        due("39: nothing", x.undo(), NONE);
        x.go(3);
        x.hold(4, 1);
        x.seed(77);
        x.sheet(0, 8, 3);
        x.ward(1, 0, 8);
        x.trial(2, 0);
        Check.feed(x, "urn");
        x.image();
        x.go(5);
        x.hold(4, -1);
        x.seed(78);
        x.sheet(0, 0, 0);
        x.ward(1, 0, 9);
        x.ward(1, 1, 9);
        x.trial(2, 1);
        x.teapot(3, 3);
        x.change(0, 0, 5);
        Check.feed(x, ";urn");
        for (int i = 0; i < 2; i++) {
            due("39: day", x.undo(), 3);
            due("39: it stays", x.now(0), 3);
            due("39: spot", x.as(4, 0), 1);
            due("39: z", x.count(6), 77);
            due("39: voters", x.wardOf(1, 0), 8);
            due("39: taste", x.wardOf(1, 1), 60);
            due("39: trial", x.listed(2), 0);
            due("39: teapots", x.count(1), 2);
            due("39: the sheet is as it was left", x.judge(0), MISSING);
            due("39: the tape too", x.count(5), 7);
            Check.of("39: teapot", x, 0, 0, 60, 0, 0, 1, 10, 1);
            Check.of("39: silver", x, 1, 2, 30, 0, 2, 1, 10, 1);
            x.go(1);
        }
        due("39: no finding is taken back", x.status(3), 1);
        due("39: a new one then", x.teapot(1, 9), 2);
        Check.of("39: as at first", x, 2, 1, 9, 20, 0, 1, 0, 0);
    }

    private static void promise40() {
        PourElection x = Check.with(0);
        due("40: nothing", x.tear(), 0);
        x.image();
        due("40: something", x.tear(), 1);
        due("40: nothing more", x.tear(), 0);
        due("40: nothing kept", x.undo(), NONE);
        due("40: as it was", x.count(1), 1);
        x.image();
        due("40: kept again", x.undo(), 0);
    }

    private static void promise41() {
        PourElection x = Check.with(0, 1, 2);
        x.go(2);
        x.change(0, 4, 0);
        x.change(0, 5, 7);
        x.change(0, 6, 9);
        x.hold(3, 2);
        x.hold(5, 2);
        x.seed(-9);
        Check.feed(x, "urn");
        int[] want = {2, 3, 27, 11, 2, 3, -9, 2};
        for (int what = 0; what < 8; what++) {
            due("41: what " + what, x.count(what), want[what]);
        }
        due("41: above", x.count(8), BEYOND);
        due("41: below", x.count(-1), BEYOND);
        x.seed(NONE);
        due("41: z is no finding", x.count(6), NONE);
        due("41: not counted", x.status(3), 0);
    }

    private static void promise42() {
        PourElection x = new PourElection();
        x.of(0, 0);
        x.of(0, 0);
        for (int i = 0; i < 9; i++) {
            x.teapot(0, 0);
        }
        x.hold(0, 0);
        for (int i = 0; i < 3; i++) {
            x.as(0, 1);
        }
        for (int i = 0; i < 4; i++) {
            x.undo();
        }
        for (int i = 0; i < 5; i++) {
            x.as(1, 1);
        }
        for (int i = 0; i < 6; i++) {
            x.sheet(0, 8, -1);
        }
        int[] want = {2, 1, 3, 4, 0, 5, 6};
        for (int which = 0; which < 7; which++) {
            due("42: which " + which, x.status(which), want[which]);
        }
        due("42: all", x.status(-1), 21);
        due("42: above", x.status(7), BEYOND);
        due("42: counted from then on", x.status(0), 3);
        due("42: below", x.status(-2), BEYOND);
        due("42: far", x.status(MAX), BEYOND);
        due("42: all", x.status(-1), 24);
        x.image();
        x.undo();
        x.text();
        due("42: an undo takes none back", x.status(-1), 24);
    }

    public static void main(String[] args) {
        promise1();
        promise2();
        promise3();
        promise4();
        promise5();
        promise6();
        promise7();
        promise8();
        promise9();
        promise10();
        promise10LastDays();
        promise11();
        promise12();
        promise13();
        promise14();
        promise15();
        promise16();
        promise17();
        promise18();
        promise19();
        promise20();
        promise21();
        promise22();
        promise23();
        promise24();
        promise25();
        promise26();
        promise27();
        promise28();
        promise29();
        promise30();
        promise31();
        promise32();
        promise33();
        promise34();
        promise35();
        promise36();
        promise37();
        promise38();
        promise39();
        promise40();
        promise41();
        promise42();
        Check.end("PromisesTest");
    }
}
