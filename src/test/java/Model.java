import java.math.BigInteger;
import java.util.ArrayList;
import java.util.Arrays;
import java.util.List;
import java.util.function.IntPredicate;
import java.util.function.IntUnaryOperator;
import java.util.regex.Matcher;
import java.util.regex.Pattern;
import java.util.stream.IntStream;

/**
 * The document told a second time, plainly and in another way than the program: kinds are classes
 * under one another, every question works on a copy, a finding is thrown.
 */
final class Model {
    static final class Finding extends RuntimeException {
        private static final long serialVersionUID = 1L;
        final int number;

        Finding(int number) {
            super(null, null, false, false);
            this.number = number;
        }
    }

    private static class Teapot {
        int heat = 90;
        int cups = 20;
        int dribble = 0;
        int stands = 1;
        int votes = 0;
        int won = 0;

        int kind() {
            return 0;
        }

        int merit(int ward, int voters, int taste) {
            return Math.max(0, 100 - Math.abs(heat - taste) - 5 * dribble);
        }

        int cools() {
            return 10;
        }

        int wets(int day) {
            return 0;
        }

        int holds() {
            return 20;
        }

        final int get(int what) {
            return new int[] {kind(), heat, cups, dribble, stands, votes, won}[what];
        }

        final Teapot with(int what, int v) {
            int[] now = {kind(), heat, cups, dribble, stands, votes, won};
            now[what] = v;
            Teapot t = made(now[0]);
            t.heat = now[1];
            t.cups = now[2];
            t.dribble = now[3];
            t.stands = now[4];
            t.votes = now[5];
            t.won = now[6];
            return t;
        }

        static Teapot made(int kind) {
            switch (kind) {
                case 0: return new Teapot();
                case 1: return new Brown();
                case 2: return new Silver();
                case 3: return new Cosy();
                case 4: return new Rose();
                case 5: return new Urn();
                case 6: return new Gilt();
                default: throw new IllegalArgumentException();
            }
        }
    }

    private static class Brown extends Teapot {
        @Override int kind() {
            return 1;
        }

        @Override int merit(int ward, int voters, int taste) {
            return super.merit(ward, voters, taste) + (cups < voters ? 0 : 10);
        }

        @Override int cools() {
            return super.cools() - 2;
        }

        @Override int wets(int day) {
            return day % 5 == 0 ? 1 : 0;
        }

        @Override int holds() {
            return 2 * super.holds();
        }
    }

    private static class Cosy extends Brown {
        @Override int kind() {
            return 3;
        }

        @Override int cools() {
            return super.cools() / 4;
        }

        @Override int holds() {
            return super.holds() - 10;
        }
    }

    private static final class Rose extends Cosy {
        @Override int kind() {
            return 4;
        }

        @Override int merit(int ward, int voters, int taste) {
            return heat == taste ? 150 : super.merit(ward, voters, taste) / 2;
        }

        @Override int cools() {
            return 1;
        }

        @Override int holds() {
            return 6;
        }
    }

    private static class Silver extends Teapot {
        @Override int kind() {
            return 2;
        }

        @Override int merit(int ward, int voters, int taste) {
            return super.merit(ward, voters, taste) + 5 * ward;
        }

        @Override int cools() {
            return super.cools() * 2;
        }

        @Override int wets(int day) {
            return 1;
        }

        @Override int holds() {
            return super.holds() - 5;
        }
    }

    private static final class Gilt extends Silver {
        @Override int kind() {
            return 6;
        }

        @Override int merit(int ward, int voters, int taste) {
            return Math.max(0, super.merit(ward, voters, taste) - dribble);
        }

        @Override int cools() {
            return super.cools() - 5;
        }

        @Override int wets(int day) {
            return super.wets(day) - (heat < 50 ? 1 : 0);
        }
    }

    private static final class Urn extends Teapot {
        @Override int kind() {
            return 5;
        }

        @Override int merit(int ward, int voters, int taste) {
            return super.merit(ward, voters, taste) / 2;
        }

        @Override int cools() {
            return super.cools() / 2;
        }

        @Override int holds() {
            return 99;
        }
    }

    private static final class World {
        int[] voters = {10, 10, 10, 10, 10, 10};
        int[] tastes = {60, 60, 60, 60, 60, 60};
        int[] list = {0, 1, 2, 3, 4, 5};
        int[] spots = {-1, -1, -1, -1, -1, -1, -1, -1, -1, -1};
        List<Teapot> pots = new ArrayList<>();
        int day = 0;
        int z = 1;

        World copied() {
            World w = new World();
            w.voters = voters.clone();
            w.tastes = tastes.clone();
            w.list = list.clone();
            w.spots = spots.clone();
            pots.forEach(t -> w.pots.add(t.with(1, t.heat)));
            w.day = day;
            w.z = z;
            return w;
        }

        int winner(int ward) {
            return voters[ward] == 0 ? -1 : IntStream.range(0, pots.size())
                .filter(i -> pots.get(i).stands == 1 && pots.get(i).cups >= 1)
                .reduce((a, b) -> merit(b, ward) > merit(a, ward) ? b : a).orElse(-1);
        }

        int merit(int i, int ward) {
            return pots.get(i).merit(ward, voters[ward], tastes[ward]);
        }

        int leader() {
            return IntStream.range(0, pots.size()).filter(i -> pots.get(i).stands == 1)
                .reduce((a, b) -> pots.get(b).votes > pots.get(a).votes ? b : a).orElse(-1);
        }

        World after(int days) {
            World w = copied();
            for (int i = 0; i < days; i++) {
                w.live();
            }
            return w;
        }

        void live() {
            int ward = list[day % 6];
            int winner = winner(ward);
            for (int i = 0; i < pots.size(); i++) {
                Teapot t = pots.get(i);
                int poured = t.stands == 1 ? Math.min(t.cups, voters[ward]) : 0;
                if (poured >= 1) {
                    t.cups -= poured;
                    t.dribble = Math.min(9, t.dribble + t.wets(day));
                }
                if (i == winner) {
                    t.won = Math.min(9999, t.won + 1);
                    t.votes = Math.min(99999, t.votes + poured);
                }
            }
            pots.stream().filter(t -> t.stands == 1).forEach(t -> t.heat = Math.max(0, t.heat - t.cools()));
            if (day % 6 == 5) {
                pots.stream().filter(t -> t.stands == 1).forEach(t -> {
                    t.cups = t.holds();
                    t.heat = 90;
                });
            }
            day = Math.min(99999, day + 1);
        }

        World with(int teapot, int what, int v) {
            World w = copied();
            w.pots.set(teapot, w.pots.get(teapot).with(what, v));
            return w;
        }

        int draw() {
            z = BigInteger.valueOf(z).multiply(BigInteger.valueOf(1103515245)).add(BigInteger.valueOf(12345)).intValue();
            return (int) ((z & 0xffffffffL) / 256);
        }
    }

    private World now = new World();
    private World image = null;
    private final List<Integer> tape = new ArrayList<>();
    private final int[][] sheets = new int[4][];
    private final int[] bits = new int[4];
    private final int[] found = new int[7];

    private static void require(boolean isSo, int finding) {
        if (!isSo) {
            throw new Finding(finding);
        }
    }

    private static void within(long v, long from, long to) {
        require(v >= from && v <= to, Check.BEYOND);
    }

    private void isTeapot(int teapot) {
        within(teapot, 0, now.pots.size() - 1);
    }

    private Teapot pot(int teapot) {
        isTeapot(teapot);
        return now.pots.get(teapot);
    }

    /** The number of the finding that a call threw is counted and answered. */
    long counted(Finding finding) {
        found[Check.BEYOND - finding.number]++;
        return finding.number;
    }

    public int ward(int ward, int what, int v) {
        within(ward, 0, 5);
        within(what, 0, 1);
        within(v, 0, 99);
        int[] row = what == 0 ? now.voters : now.tastes;
        int was = row[ward];
        row[ward] = v;
        return was;
    }

    public int wardOf(int ward, int what) {
        within(ward, 0, 5);
        within(what, 0, 2);
        return what == 0 ? now.voters[ward] : what == 1 ? now.tastes[ward] : now.winner(ward);
    }

    public int trial(int i, int ward) {
        within(i, 0, 5);
        within(ward, 0, 5);
        int was = now.list[i];
        now.list[i] = ward;
        return was;
    }

    public int listed(int i) {
        within(i, 0, 5);
        return now.list[i];
    }

    public int teapot(int kind, int heat) {
        within(kind, 0, 6);
        within(heat, 0, 99);
        require(now.pots.size() < 8, Check.FULL);
        now.pots.add(Teapot.made(kind).with(1, heat));
        return now.pots.size() - 1;
    }

    public int of(int teapot, int what) {
        Teapot t = pot(teapot);
        within(what, 0, 9);
        return what < 7 ? t.get(what) : what == 7 ? t.cools() : what == 8 ? t.wets(now.day) : t.holds();
    }

    public int change(int teapot, int what, int v) {
        Teapot t = pot(teapot);
        within(what, 0, 6);
        within(v, 0, new int[] {6, 99, 99, 9, 1, 99999, 9999}[what]);
        now = now.with(teapot, what, v);
        return t.get(what);
    }

    public int merit(int teapot, int ward) {
        isTeapot(teapot);
        within(ward, 0, 5);
        return now.merit(teapot, ward);
    }

    public int go(int n) {
        within(n, 1, 60);
        require(now.day + n <= 99999, Check.STATE);
        now = now.after(n);
        return now.leader();
    }

    public int now(int what) {
        within(what, 0, 7);
        IntStream standing = IntStream.range(0, now.pots.size()).filter(i -> now.pots.get(i).stands == 1);
        switch (what) {
            case 0: return now.day;
            case 1: return now.leader();
            case 2: return now.pots.stream().mapToInt(t -> t.votes).sum();
            case 3: return standing.map(i -> now.pots.get(i).cups).sum();
            case 4: return standing.map(i -> 1 << i).sum();
            case 5: return IntStream.range(0, 6).filter(w -> now.winner(w) != -1).map(w -> 1 << w).sum();
            case 6: return now.pots.stream().mapToInt(t -> t.dribble).sum();
            default: return standing.reduce((a, b) -> now.pots.get(b).heat > now.pots.get(a).heat ? b : a).orElse(-1);
        }
    }

    public int ahead(int teapot, int what, int n) {
        isTeapot(teapot);
        require(List.of(1, 2, 3, 5, 6).contains(what), Check.BEYOND);
        within(n, 0, 100);
        return now.after(n).pots.get(teapot).get(what);
    }

    public int leads(int n) {
        within(n, 0, 100);
        int leader = now.after(n).leader();
        require(leader != -1, Check.NONE);
        return leader;
    }

    private int first(int to, IntPredicate is) {
        return IntStream.rangeClosed(0, to).filter(is).findFirst().orElseThrow(() -> new Finding(Check.NONE));
    }

    public int when(int teapot) {
        isTeapot(teapot);
        World w = now.copied();
        return first(200, n -> {
            boolean isSo = w.leader() == teapot;
            w.live();
            return isSo;
        });
    }

    public int votes(int teapot, int v) {
        isTeapot(teapot);
        within(v, 0, 99999);
        World w = now.copied();
        return first(200, n -> {
            boolean isSo = w.pots.get(teapot).votes >= v;
            w.live();
            return isSo;
        });
    }

    public int dry() {
        World w = now.copied();
        return first(200, n -> {
            boolean isSo = w.pots.stream().noneMatch(t -> t.stands == 1 && t.cups > 0);
            w.live();
            return isSo;
        });
    }

    public int heatFor(int teapot, int n) {
        isTeapot(teapot);
        within(n, 0, 60);
        return first(99, heat -> now.with(teapot, 1, heat).after(n).leader() == teapot);
    }

    private static int best(int many, IntUnaryOperator value) {
        int[] values = IntStream.range(0, many).map(value).toArray();
        int most = Arrays.stream(values).max().getAsInt();
        return IntStream.range(0, many).filter(i -> values[i] == most).findFirst().getAsInt();
    }

    public int kindFor(int teapot, int n) {
        isTeapot(teapot);
        within(n, 0, 60);
        return best(7, kind -> now.with(teapot, 0, kind).after(n).pots.get(teapot).votes);
    }

    public int cupsFor(int teapot, int n) {
        isTeapot(teapot);
        within(n, 0, 60);
        return first(99, cups -> now.with(teapot, 2, cups).after(n).leader() == teapot);
    }

    public int tryFor(int teapot, int n) {
        isTeapot(teapot);
        within(n, 0, 60);
        return best(6, ward -> {
            World w = now.copied();
            w.list[w.day % 6] = ward;
            return w.after(n).pots.get(teapot).votes;
        });
    }

    public int smash(int teapot, int n) {
        isTeapot(teapot);
        within(n, 0, 20);
        for (int size = 0; size < 8; size++) {
            for (int set = 0; set < 1 << now.pots.size(); set++) {
                if (Integer.bitCount(set) == size && (set & 1 << teapot) == 0) {
                    World w = now.copied();
                    for (int i = 0; i < w.pots.size(); i++) {
                        if ((set & 1 << i) != 0) {
                            w = w.with(i, 4, 0);
                        }
                    }
                    if (w.after(n).leader() == teapot) {
                        return set;
                    }
                }
            }
        }
        throw new Finding(Check.NONE);
    }

    private World tasting(int ward, int taste) {
        World w = now.copied();
        w.tastes[ward] = taste;
        return w;
    }

    public int liked(int teapot, int ward) {
        isTeapot(teapot);
        within(ward, 0, 5);
        return (int) IntStream.range(0, 100).filter(taste -> tasting(ward, taste).winner(ward) == teapot).count();
    }

    private void isSheet(int s) {
        within(s, 0, 3);
        require(sheets[s] != null, Check.MISSING);
    }

    private boolean asTold(World w, int s, int most, int teapot, int what) {
        return IntStream.range(0, Math.min(most, sheets[s].length))
            .allMatch(i -> sheets[s][i] == -1 || sheets[s][i] == w.after(i).pots.get(teapot).get(what));
    }

    public int fits(int s, int teapot, int ward) {
        isSheet(s);
        isTeapot(teapot);
        within(ward, 0, 5);
        return (int) IntStream.range(0, 100).filter(taste -> asTold(tasting(ward, taste), s, 12, teapot, 6)).count();
    }

    public int kinds(int s, int teapot) {
        isSheet(s);
        isTeapot(teapot);
        return IntStream.range(0, 7).filter(kind -> asTold(now.with(teapot, 0, kind), s, 40, teapot, 1))
            .map(kind -> 1 << kind).sum();
    }

    public int elect(int n) {
        within(n, 1, 20);
        require(now.day + n <= 99999, Check.STATE);
        for (int i = 0; i < n; i++) {
            int ward = now.draw() % 6;
            now.list[now.day % 6] = ward;
            now.tastes[ward] = now.draw() % 100;
            int teapot = now.draw() % 8;
            if (teapot < now.pots.size()) {
                now = now.with(teapot, 4, now.pots.get(teapot).stands == 1 ? 0 : 1);
            }
            now.live();
        }
        return now.leader();
    }

    public long odds(int teapot, int ward, int n, int what) {
        isTeapot(teapot);
        within(ward, 0, 5);
        within(n, 0, 9);
        within(what, 0, 1);
        BigInteger above = BigInteger.valueOf(liked(teapot, ward)).pow(n);
        BigInteger below = BigInteger.valueOf(100).pow(n);
        return (what == 0 ? above : below).divide(above.gcd(below)).longValueExact();
    }

    public int seed(int v) {
        int was = now.z;
        now.z = v;
        return was;
    }

    public int feed(int bytes, int n) {
        within(n, 1, 4);
        require(tape.size() + n <= 120, Check.FULL);
        byte[] four = BigInteger.valueOf(bytes & 0xffffffffL | 1L << 32).toByteArray();
        for (int i = 5 - n; i < 5; i++) {
            tape.add(four[i] & 255);
        }
        return tape.size();
    }

    public int wipe() {
        int had = tape.size();
        tape.clear();
        return had;
    }

    private static final class Fault extends RuntimeException {
        private static final long serialVersionUID = 1L;
        final int place;

        Fault(int place) {
            super(null, null, false, false);
            this.place = place;
        }
    }

    private static final class Reader {
        private static final Pattern TOKEN = Pattern.compile(" *(?:([a-z]+)|([0-9]+)|(;)|(.)|$)", Pattern.DOTALL);
        final List<String> tokens = new ArrayList<>();
        final List<Integer> places = new ArrayList<>();
        int at = 0;

        Reader(String text) {
            Matcher m = TOKEN.matcher(text);
            while (m.lookingAt() && m.end() > m.start()) {
                String token = m.group().substring(m.group().lastIndexOf(' ') + 1);
                if (!token.isEmpty()) {
                    tokens.add(token);
                    places.add(m.end() - token.length());
                }
                m.region(m.end(), text.length());
            }
            tokens.add("the end");
            places.add(text.length());
        }

        String token() {
            return tokens.get(at);
        }

        Fault fault() {
            return new Fault(places.get(at));
        }

        boolean took(String token) {
            boolean isSo = token().equals(token);
            at += isSo ? 1 : 0;
            return isSo;
        }

        int number(int most) {
            if (!token().matches("[0-9]+") || new BigInteger(token()).compareTo(BigInteger.valueOf(most)) > 0) {
                throw fault();
            }
            at++;
            return new BigInteger(tokens.get(at - 1)).intValue();
        }
    }

    private static void item(Reader r, World w) {
        int kind = List.of("teapot", "brown", "silver", "cosy", "rose", "urn", "gilt").indexOf(r.token());
        if (kind >= 0 && w.pots.size() < 8) {
            r.at++;
            Teapot t = Teapot.made(kind);
            t.heat = r.took("heat") ? r.number(99) : t.heat;
            t.cups = r.took("cups") ? r.number(99) : t.cups;
            t.dribble = r.took("dribble") ? r.number(9) : t.dribble;
            t.votes = r.took("votes") ? r.number(99999) : t.votes;
            t.stands = r.took("broken") ? 0 : 1;
            w.pots.add(t);
        } else if (r.took("ward")) {
            int ward = r.number(5);
            w.voters[ward] = r.took("voters") ? r.number(99) : w.voters[ward];
            w.tastes[ward] = r.took("taste") ? r.number(99) : w.tastes[ward];
        } else if (r.took("trial")) {
            int place = r.number(5);
            w.list[place] = r.number(5);
        } else {
            throw r.fault();
        }
    }

    public int text() {
        StringBuilder text = new StringBuilder();
        tape.forEach(b -> text.append((char) b.intValue()));
        tape.clear();
        Reader r = new Reader(text.toString());
        World w = now.copied();
        try {
            item(r, w);
            int items = 1;
            while (r.took(";")) {
                item(r, w);
                items++;
            }
            if (!r.token().equals("the end")) {
                throw r.fault();
            }
            now = w;
            return items;
        } catch (Fault fault) {
            return -1 - fault.place;
        }
    }

    public int hold(int spot, int teapot) {
        within(spot, 0, 9);
        within(teapot, -1, now.pots.size() - 1);
        now.spots[spot] = teapot;
        return 1;
    }

    public int as(int spot, int kind) {
        within(spot, 0, 9);
        within(kind, 0, 6);
        require(now.spots[spot] != -1, Check.MISSING);
        Class<?> above = Teapot.made(kind).getClass();
        require(above.isInstance(now.pots.get(now.spots[spot])), Check.KIND);
        return now.spots[spot];
    }

    public int sheet(int s, int newBits, int n) {
        within(s, 0, 3);
        require(List.of(0, 8, 16, 32).contains(newBits), Check.BEYOND);
        require(n >= 0, Check.SIZE);
        within(n, 0, 40);
        sheets[s] = newBits == 0 ? null : new int[n];
        bits[s] = newBits;
        return newBits == 0 ? 0 : n;
    }

    public int write(int s, int i, int v) {
        isSheet(s);
        within(i, 0, sheets[s].length - 1);
        sheets[s][i] = v << 32 - bits[s] >> 32 - bits[s];
        return 1;
    }

    public int copy(int s, int from, int t, int to, int n) {
        within(s, 0, 3);
        within(t, 0, 3);
        isSheet(s);
        isSheet(t);
        require(bits[s] == bits[t], Check.KIND);
        within(from, 0, 40);
        within(to, 0, 40);
        within(n, 0, 40);
        within(from + n, 0, sheets[s].length);
        within(to + n, 0, sheets[t].length);
        int[] were = sheets[s].clone();
        for (int i = 0; i < n; i++) {
            sheets[t][to + i] = were[from + i];
        }
        return n;
    }

    public int load(int s) {
        isSheet(s);
        int came = 0;
        while (came < 6 && came < sheets[s].length && sheets[s][came] >= 0 && sheets[s][came] <= 99) {
            now.tastes[came] = sheets[s][came];
            came++;
        }
        return came;
    }

    public int judge(int s) {
        isSheet(s);
        return 1 + IntStream.range(0, sheets[s].length)
            .filter(i -> i >= now.pots.size() || sheets[s][i] != now.pots.get(i).votes).findFirst().orElse(-1);
    }

    public int image() {
        image = now.copied();
        return 1;
    }

    public int undo() {
        require(image != null, Check.NONE);
        now = image.copied();
        return now.day;
    }

    public int tear() {
        int had = image == null ? 0 : 1;
        image = null;
        return had;
    }

    public int count(int what) {
        within(what, 0, 7);
        switch (what) {
            case 0: return now.day;
            case 1: return now.pots.size();
            case 2: return now.pots.stream().mapToInt(t -> t.votes).sum();
            case 3: return now.pots.stream().mapToInt(t -> t.won).sum();
            case 4: return (int) now.pots.stream().filter(t -> t.stands == 1).count();
            case 5: return tape.size();
            case 6: return now.z;
            default: return (int) Arrays.stream(now.spots).filter(t -> t != -1).count();
        }
    }

    public int status(int which) {
        within(which, -1, 6);
        return which == -1 ? Arrays.stream(found).sum() : found[which];
    }
}
