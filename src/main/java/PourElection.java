/** Teapots elected for their pour; ../shared/DOC.md says by promises what each call does. */
public final class PourElection {
    private static final int BEYOND = -1000001;
    private static final int FULL = BEYOND - 1;
    private static final int OTHER_KIND = BEYOND - 2;
    private static final int NONE = BEYOND - 3;
    private static final int STATE = BEYOND - 4;
    private static final int MISSING = BEYOND - 5;
    private static final int SIZE = BEYOND - 6;
    private static final int FINDINGS = 7;

    private static final int WARDS = 6;
    private static final int TRIALS = 6;
    private static final int TEAPOTS = 8;
    private static final int SPOTS = 10;
    private static final int SHEETS = 4;
    private static final int SHEET_NUMBERS = 40;
    private static final int TAPE_BYTES = 120;

    private static final int LAST_DAY = 99999;
    private static final int MOST_VOTES = 99999;
    private static final int MOST_WON = 9999;
    private static final int MOST_DRIBBLE = 9;
    private static final int MOST_HEAT = 99;
    private static final int MOST_CUPS = 99;
    private static final int MOST_VOTERS = 99;
    private static final int TASTES = 100;
    private static final int HOT = 90;
    private static final int LONG_VIEW = 200;
    private static final int FITS_ASKED = 12;

    private static final int TEAPOT = 0;
    private static final int BROWN = 1;
    private static final int SILVER = 2;
    private static final int COSY = 3;
    private static final int ROSE = 4;
    private static final int URN = 5;
    private static final int GILT = 6;
    private static final int KINDS = 7;

    private static final int OF_KIND = 0;
    private static final int OF_HEAT = 1;
    private static final int OF_CUPS = 2;
    private static final int OF_DRIBBLE = 3;
    private static final int OF_STANDS = 4;
    private static final int OF_VOTES = 5;
    private static final int OF_WON = 6;

    private static final int TO_LEAD = 0;
    private static final int TO_HAVE_VOTES = 1;
    private static final int TO_BE_DRY = 2;

    private final Borough borough;
    private final Borough kept;
    // Every question about what would be is played through here, so that no call makes objects.
    private final Borough dream;
    private final Tape tape;
    private final Sheet[] sheets;
    private final int[] findings;
    private boolean isKept;

    public PourElection() {
        borough = new Borough();
        kept = new Borough();
        dream = new Borough();
        tape = new Tape();
        sheets = new Sheet[SHEETS];
        for (int s = 0; s < SHEETS; s++) {
            sheets[s] = new Sheet();
        }
        findings = new int[FINDINGS];
        isKept = false;
    }

    // ---- borough, teapots

    public int ward(int ward, int what, int v) {
        if (!isWard(ward) || !within(what, 1) || !within(v, what == 0 ? MOST_VOTERS : TASTES - 1)) {
            return found(BEYOND);
        }
        int[] row = what == 0 ? borough.voters : borough.tastes;
        int was = row[ward];
        row[ward] = v;
        return was;
    }

    public int wardOf(int ward, int what) {
        if (!isWard(ward) || !within(what, 2)) {
            return found(BEYOND);
        }
        if (what == 0) {
            return borough.voters[ward];
        }
        return what == 1 ? borough.tastes[ward] : borough.winnerIn(ward);
    }

    public int trial(int i, int ward) {
        if (!within(i, TRIALS - 1) || !isWard(ward)) {
            return found(BEYOND);
        }
        int was = borough.list[i];
        borough.list[i] = ward;
        return was;
    }

    public int listed(int i) {
        return within(i, TRIALS - 1) ? borough.list[i] : found(BEYOND);
    }

    public int teapot(int kind, int heat) {
        if (!isKind(kind) || !within(heat, MOST_HEAT)) {
            return found(BEYOND);
        }
        if (borough.number >= TEAPOTS) {
            return found(FULL);
        }
        borough.place(kind, heat);
        return borough.number - 1;
    }

    public int of(int teapot, int what) {
        if (!isTeapot(teapot) || !within(what, 9)) {
            return found(BEYOND);
        }
        Teapot pot = borough.pots[teapot];
        switch (what) {
            case 7:
                return pot.cools();
            case 8:
                return pot.wets(borough.day);
            case 9:
                return pot.holds();
            default:
                return pot.told(what);
        }
    }

    public int change(int teapot, int what, int v) {
        if (!isTeapot(teapot) || !within(what, OF_WON) || !within(v, mostOf(what))) {
            return found(BEYOND);
        }
        Teapot pot = borough.pots[teapot];
        int was = pot.told(what);
        pot.put(what, v);
        return was;
    }

    public int merit(int teapot, int ward) {
        if (!isTeapot(teapot) || !isWard(ward)) {
            return found(BEYOND);
        }
        return borough.pots[teapot].meritFor(ward, borough.voters[ward], borough.tastes[ward]);
    }

    // ---- days

    public int go(int n) {
        if (n < 1 || n > 60) {
            return found(BEYOND);
        }
        if (borough.day + n > LAST_DAY) {
            return found(STATE);
        }
        borough.pass(n);
        return borough.leader();
    }

    public int now(int what) {
        switch (what) {
            case 0:
                return borough.day;
            case 1:
                return borough.leader();
            case 2:
                return borough.sum(OF_VOTES);
            case 3:
                return borough.cupsStanding();
            case 4:
                return borough.standing();
            case 5:
                return borough.wardsWon();
            case 6:
                return borough.sum(OF_DRIBBLE);
            case 7:
                return borough.mostStanding(OF_HEAT);
            default:
                return found(BEYOND);
        }
    }

    // ---- what will be (nothing changes)

    public int ahead(int teapot, int what, int n) {
        boolean moves = within(what, OF_WON) && what != OF_KIND && what != OF_STANDS;
        if (!isTeapot(teapot) || !moves || !within(n, 100)) {
            return found(BEYOND);
        }
        dream.become(borough);
        dream.pass(n);
        return dream.pots[teapot].told(what);
    }

    public int leads(int n) {
        if (!within(n, 100)) {
            return found(BEYOND);
        }
        dream.become(borough);
        dream.pass(n);
        int leader = dream.leader();
        return leader < 0 ? found(NONE) : leader;
    }

    public int when(int teapot) {
        return isTeapot(teapot) ? daysUntil(TO_LEAD, teapot, 0) : found(BEYOND);
    }

    public int votes(int teapot, int v) {
        if (!isTeapot(teapot) || !within(v, MOST_VOTES)) {
            return found(BEYOND);
        }
        return daysUntil(TO_HAVE_VOTES, teapot, v);
    }

    public int dry() {
        return daysUntil(TO_BE_DRY, 0, 0);
    }

    // ---- how to win

    public int heatFor(int teapot, int n) {
        if (!isTeapot(teapot) || !within(n, 60)) {
            return found(BEYOND);
        }
        return leastToLead(teapot, OF_HEAT, n);
    }

    public int kindFor(int teapot, int n) {
        if (!isTeapot(teapot) || !within(n, 60)) {
            return found(BEYOND);
        }
        int best = 0;
        int most = -1;
        for (int kind = 0; kind < KINDS; kind++) {
            dream.become(borough);
            dream.pots[teapot].kind = kind;
            dream.pass(n);
            if (dream.pots[teapot].votes > most) {
                best = kind;
                most = dream.pots[teapot].votes;
            }
        }
        return best;
    }

    public int cupsFor(int teapot, int n) {
        if (!isTeapot(teapot) || !within(n, 60)) {
            return found(BEYOND);
        }
        return leastToLead(teapot, OF_CUPS, n);
    }

    public int tryFor(int teapot, int n) {
        if (!isTeapot(teapot) || !within(n, 60)) {
            return found(BEYOND);
        }
        int best = 0;
        int most = -1;
        for (int ward = 0; ward < WARDS; ward++) {
            dream.become(borough);
            dream.list[dream.day % TRIALS] = ward;
            dream.pass(n);
            if (dream.pots[teapot].votes > most) {
                best = ward;
                most = dream.pots[teapot].votes;
            }
        }
        return best;
    }

    public int smash(int teapot, int n) {
        if (!isTeapot(teapot) || !within(n, 20)) {
            return found(BEYOND);
        }
        int best = -1;
        int fewest = TEAPOTS;
        for (int set = 0; set < 1 << borough.number; set++) {
            boolean others = (set >> teapot & 1) == 0;
            if (others && Integer.bitCount(set) < fewest && leadsWithout(set, teapot, n)) {
                best = set;
                fewest = Integer.bitCount(set);
            }
        }
        return best < 0 ? found(NONE) : best;
    }

    public int liked(int teapot, int ward) {
        return isTeapot(teapot) && isWard(ward) ? tastesWon(teapot, ward) : found(BEYOND);
    }

    // ---- told winners

    public int fits(int s, int teapot, int ward) {
        if (!within(s, SHEETS - 1)) {
            return found(BEYOND);
        }
        if (sheets[s].isMissing()) {
            return found(MISSING);
        }
        if (!isTeapot(teapot) || !isWard(ward)) {
            return found(BEYOND);
        }
        int many = 0;
        for (int taste = 0; taste < TASTES; taste++) {
            dream.become(borough);
            dream.tastes[ward] = taste;
            if (goesAsTold(sheets[s], FITS_ASKED, teapot, OF_WON)) {
                many++;
            }
        }
        return many;
    }

    public int kinds(int s, int teapot) {
        if (!within(s, SHEETS - 1)) {
            return found(BEYOND);
        }
        if (sheets[s].isMissing()) {
            return found(MISSING);
        }
        if (!isTeapot(teapot)) {
            return found(BEYOND);
        }
        int set = 0;
        for (int kind = 0; kind < KINDS; kind++) {
            dream.become(borough);
            dream.pots[teapot].kind = kind;
            if (goesAsTold(sheets[s], SHEET_NUMBERS, teapot, OF_HEAT)) {
                set |= 1 << kind;
            }
        }
        return set;
    }

    // ---- by-elections

    public int elect(int n) {
        if (n < 1 || n > 20) {
            return found(BEYOND);
        }
        if (borough.day + n > LAST_DAY) {
            return found(STATE);
        }
        for (int i = 0; i < n; i++) {
            byElection();
        }
        return borough.leader();
    }

    public long odds(int teapot, int ward, int n, int what) {
        if (!isTeapot(teapot) || !isWard(ward) || !within(n, 9) || !within(what, 1)) {
            return found(BEYOND);
        }
        int won = tastesWon(teapot, ward);
        int common = commonDivisor(won, TASTES);
        // Powers of a fraction in lowest terms are in lowest terms, and 100 to the 9th fits a long.
        return power(what == 0 ? won / common : TASTES / common, n);
    }

    public int seed(int v) {
        int was = borough.z;
        borough.z = v;
        return was;
    }

    // ---- texts

    public int feed(int bytes, int n) {
        if (n < 1 || n > 4) {
            return found(BEYOND);
        }
        if (tape.length + n > TAPE_BYTES) {
            return found(FULL);
        }
        for (int i = n - 1; i >= 0; i--) {
            tape.add(bytes >>> 8 * i & 255);
        }
        return tape.length;
    }

    public int wipe() {
        int had = tape.length;
        tape.length = 0;
        return had;
    }

    public int text() {
        // It is read into a copy, since a FAULT far behind must leave nothing of what stood ahead.
        dream.become(borough);
        tape.begin();
        int items = 1;
        boolean isSo = itemInto(dream);
        while (isSo && tape.sort == Tape.SIGN && items < TAPE_BYTES) {
            tape.advance();
            isSo = itemInto(dream);
            items++;
        }
        tape.length = 0;
        if (!isSo || tape.sort != Tape.END) {
            return -1 - tape.start;
        }
        borough.become(dream);
        return items;
    }

    // ---- spots, sheets

    public int hold(int spot, int teapot) {
        if (!within(spot, SPOTS - 1) || teapot != -1 && !isTeapot(teapot)) {
            return found(BEYOND);
        }
        borough.spots[spot] = teapot;
        return 1;
    }

    public int as(int spot, int kind) {
        if (!within(spot, SPOTS - 1) || !isKind(kind)) {
            return found(BEYOND);
        }
        int teapot = borough.spots[spot];
        if (!isTeapot(teapot)) {
            return found(MISSING);
        }
        return isUnder(borough.pots[teapot].kind, kind) ? teapot : found(OTHER_KIND);
    }

    public int sheet(int s, int bits, int n) {
        boolean known = bits == 0 || bits == 8 || bits == 16 || bits == 32;
        if (!within(s, SHEETS - 1) || !known) {
            return found(BEYOND);
        }
        if (n < 0) {
            return found(SIZE);
        }
        if (n > SHEET_NUMBERS) {
            return found(BEYOND);
        }
        sheets[s].lay(bits, n);
        return sheets[s].length;
    }

    public int write(int s, int i, int v) {
        if (!within(s, SHEETS - 1)) {
            return found(BEYOND);
        }
        if (sheets[s].isMissing()) {
            return found(MISSING);
        }
        if (!within(i, sheets[s].length - 1)) {
            return found(BEYOND);
        }
        sheets[s].put(i, v);
        return 1;
    }

    public int copy(int s, int from, int t, int to, int n) {
        if (!within(s, SHEETS - 1) || !within(t, SHEETS - 1)) {
            return found(BEYOND);
        }
        if (sheets[s].isMissing() || sheets[t].isMissing()) {
            return found(MISSING);
        }
        if (sheets[s].bits != sheets[t].bits) {
            return found(OTHER_KIND);
        }
        if (!sheets[s].hasPart(from, n) || !sheets[t].hasPart(to, n)) {
            return found(BEYOND);
        }
        System.arraycopy(sheets[s].numbers, from, sheets[t].numbers, to, n);
        return n;
    }

    public int load(int s) {
        if (!within(s, SHEETS - 1)) {
            return found(BEYOND);
        }
        if (sheets[s].isMissing()) {
            return found(MISSING);
        }
        int[] numbers = sheets[s].numbers;
        int most = Math.min(sheets[s].length, WARDS);
        for (int i = 0; i < most; i++) {
            if (!within(numbers[i], TASTES - 1)) {
                return i;
            }
            borough.tastes[i] = numbers[i];
        }
        return most;
    }

    public int judge(int s) {
        if (!within(s, SHEETS - 1)) {
            return found(BEYOND);
        }
        if (sheets[s].isMissing()) {
            return found(MISSING);
        }
        for (int i = 0; i < sheets[s].length; i++) {
            if (!isTeapot(i) || sheets[s].numbers[i] != borough.pots[i].votes) {
                return 1 + i;
            }
        }
        return 0;
    }

    // ---- images

    public int image() {
        kept.become(borough);
        isKept = true;
        return 1;
    }

    public int undo() {
        if (!isKept) {
            return found(NONE);
        }
        borough.become(kept);
        return borough.day;
    }

    public int tear() {
        int had = isKept ? 1 : 0;
        isKept = false;
        return had;
    }

    public int count(int what) {
        switch (what) {
            case 0:
                return borough.day;
            case 1:
                return borough.number;
            case 2:
                return borough.sum(OF_VOTES);
            case 3:
                return borough.sum(OF_WON);
            case 4:
                return borough.sum(OF_STANDS);
            case 5:
                return tape.length;
            case 6:
                return borough.z;
            case 7:
                return borough.spotsHolding();
            default:
                return found(BEYOND);
        }
    }

    public int status(int which) {
        if (which == -1) {
            int all = 0;
            for (int i = 0; i < FINDINGS; i++) {
                all += findings[i];
            }
            return all;
        }
        return within(which, FINDINGS - 1) ? findings[which] : found(BEYOND);
    }

    // ---- what the calls share

    private int found(int finding) {
        findings[BEYOND - finding]++;
        return finding;
    }

    private static boolean within(int v, int most) {
        return v >= 0 && v <= most;
    }

    private static boolean isWard(int ward) {
        return within(ward, WARDS - 1);
    }

    private static boolean isKind(int kind) {
        return within(kind, KINDS - 1);
    }

    private boolean isTeapot(int teapot) {
        return within(teapot, borough.number - 1);
    }

    private static int mostOf(int what) {
        switch (what) {
            case OF_KIND:
                return KINDS - 1;
            case OF_HEAT:
                return MOST_HEAT;
            case OF_CUPS:
                return MOST_CUPS;
            case OF_DRIBBLE:
                return MOST_DRIBBLE;
            case OF_STANDS:
                return 1;
            case OF_VOTES:
                return MOST_VOTES;
            default:
                return MOST_WON;
        }
    }

    private static boolean isUnder(int kind, int above) {
        switch (above) {
            case TEAPOT:
                return true;
            case BROWN:
                return kind == BROWN || kind == COSY || kind == ROSE;
            case SILVER:
                return kind == SILVER || kind == GILT;
            case COSY:
                return kind == COSY || kind == ROSE;
            default:
                return kind == above;
        }
    }

    private int daysUntil(int goal, int teapot, int v) {
        dream.become(borough);
        for (int days = 0; days <= LONG_VIEW; days++) {
            if (isReached(goal, teapot, v)) {
                return days;
            }
            dream.passDay();
        }
        return found(NONE);
    }

    private boolean isReached(int goal, int teapot, int v) {
        switch (goal) {
            case TO_LEAD:
                return dream.leader() == teapot;
            case TO_HAVE_VOTES:
                return dream.pots[teapot].votes >= v;
            default:
                return dream.cupsStanding() == 0;
        }
    }

    private int leastToLead(int teapot, int what, int n) {
        for (int v = 0; v <= mostOf(what); v++) {
            dream.become(borough);
            dream.pots[teapot].put(what, v);
            dream.pass(n);
            if (dream.leader() == teapot) {
                return v;
            }
        }
        return found(NONE);
    }

    private boolean leadsWithout(int set, int teapot, int n) {
        dream.become(borough);
        for (int i = 0; i < dream.number; i++) {
            if ((set >> i & 1) == 1) {
                dream.pots[i].stands = 0;
            }
        }
        dream.pass(n);
        return dream.leader() == teapot;
    }

    private int tastesWon(int teapot, int ward) {
        dream.become(borough);
        int many = 0;
        for (int taste = 0; taste < TASTES; taste++) {
            dream.tastes[ward] = taste;
            if (dream.winnerIn(ward) == teapot) {
                many++;
            }
        }
        return many;
    }

    private boolean goesAsTold(Sheet sheet, int most, int teapot, int what) {
        int asked = Math.min(sheet.length, most);
        for (int i = 0; i < asked; i++) {
            if (sheet.numbers[i] != -1 && sheet.numbers[i] != dream.pots[teapot].told(what)) {
                return false;
            }
            dream.passDay();
        }
        return true;
    }

    private void byElection() {
        int ward = borough.draw() % WARDS;
        int taste = borough.draw() % TASTES;
        int teapot = borough.draw() % TEAPOTS;
        borough.list[borough.day % TRIALS] = ward;
        borough.tastes[ward] = taste;
        if (isTeapot(teapot)) {
            borough.pots[teapot].stands = 1 - borough.pots[teapot].stands;
        }
        borough.passDay();
    }

    private static int commonDivisor(int a, int b) {
        int common = 1;
        for (int d = 2; d <= b; d++) {
            if (a % d == 0 && b % d == 0) {
                common = d;
            }
        }
        return common;
    }

    private static long power(int base, int n) {
        long product = 1;
        for (int i = 0; i < n; i++) {
            product *= base;
        }
        return product;
    }

    // ---- reading a TEXT

    // Of an item that can't be so, the token at fault is left as the tape's present one.
    private boolean itemInto(Borough b) {
        int kind = kindTold();
        if (kind >= 0) {
            return b.number < TEAPOTS && teapotItem(b, kind);
        }
        if (tape.isWord("ward")) {
            return wardItem(b);
        }
        return tape.isWord("trial") && trialItem(b);
    }

    private int kindTold() {
        for (int kind = 0; kind < KINDS; kind++) {
            if (tape.isWord(kindWord(kind))) {
                return kind;
            }
        }
        return -1;
    }

    private static String kindWord(int kind) {
        switch (kind) {
            case TEAPOT:
                return "teapot";
            case BROWN:
                return "brown";
            case SILVER:
                return "silver";
            case COSY:
                return "cosy";
            case ROSE:
                return "rose";
            case URN:
                return "urn";
            default:
                return "gilt";
        }
    }

    private boolean teapotItem(Borough b, int kind) {
        Teapot pot = b.place(kind, HOT);
        tape.advance();
        boolean stands = perhaps(pot, "heat", OF_HEAT) && perhaps(pot, "cups", OF_CUPS)
                && perhaps(pot, "dribble", OF_DRIBBLE) && perhaps(pot, "votes", OF_VOTES);
        if (stands && tape.isWord("broken")) {
            pot.stands = 0;
            tape.advance();
        }
        return stands;
    }

    private boolean perhaps(Teapot pot, String word, int what) {
        if (!tape.isWord(word)) {
            return true;
        }
        tape.advance();
        if (!tape.isNumber(mostOf(what))) {
            return false;
        }
        pot.put(what, tape.value);
        tape.advance();
        return true;
    }

    private boolean wardItem(Borough b) {
        tape.advance();
        if (!tape.isNumber(WARDS - 1)) {
            return false;
        }
        int ward = tape.value;
        tape.advance();
        return perhapsOfWard(b.voters, ward, "voters", MOST_VOTERS)
                && perhapsOfWard(b.tastes, ward, "taste", TASTES - 1);
    }

    private boolean perhapsOfWard(int[] row, int ward, String word, int most) {
        if (!tape.isWord(word)) {
            return true;
        }
        tape.advance();
        if (!tape.isNumber(most)) {
            return false;
        }
        row[ward] = tape.value;
        tape.advance();
        return true;
    }

    private boolean trialItem(Borough b) {
        tape.advance();
        if (!tape.isNumber(TRIALS - 1)) {
            return false;
        }
        int i = tape.value;
        tape.advance();
        if (!tape.isNumber(WARDS - 1)) {
            return false;
        }
        b.list[i] = tape.value;
        tape.advance();
        return true;
    }

    private static final class Teapot {
        int kind;
        int heat;
        int cups;
        int dribble;
        int stands;
        int votes;
        int won;

        void renew(int newKind, int newHeat) {
            kind = newKind;
            heat = newHeat;
            cups = 20;
            dribble = 0;
            stands = 1;
            votes = 0;
            won = 0;
        }

        void become(Teapot other) {
            kind = other.kind;
            heat = other.heat;
            cups = other.cups;
            dribble = other.dribble;
            stands = other.stands;
            votes = other.votes;
            won = other.won;
        }

        int told(int what) {
            switch (what) {
                case OF_KIND:
                    return kind;
                case OF_HEAT:
                    return heat;
                case OF_CUPS:
                    return cups;
                case OF_DRIBBLE:
                    return dribble;
                case OF_STANDS:
                    return stands;
                case OF_VOTES:
                    return votes;
                default:
                    return won;
            }
        }

        void put(int what, int v) {
            switch (what) {
                case OF_KIND:
                    kind = v;
                    break;
                case OF_HEAT:
                    heat = v;
                    break;
                case OF_CUPS:
                    cups = v;
                    break;
                case OF_DRIBBLE:
                    dribble = v;
                    break;
                case OF_STANDS:
                    stands = v;
                    break;
                case OF_VOTES:
                    votes = v;
                    break;
                default:
                    won = v;
                    break;
            }
        }

        int meritFor(int ward, int voters, int taste) {
            int plain = Math.max(0, 100 - Math.abs(heat - taste) - 5 * dribble);
            int brown = cups >= voters ? plain + 10 : plain;
            int silver = plain + 5 * ward;
            switch (kind) {
                case BROWN:
                case COSY:
                    return brown;
                case ROSE:
                    return heat == taste ? 150 : brown / 2;
                case SILVER:
                    return silver;
                case GILT:
                    return Math.max(0, silver - dribble);
                case URN:
                    return plain / 2;
                default:
                    return plain;
            }
        }

        int cools() {
            int plain = 10;
            int brown = plain - 2;
            int silver = 2 * plain;
            switch (kind) {
                case BROWN:
                    return brown;
                case COSY:
                    return brown / 4;
                case ROSE:
                    return 1;
                case SILVER:
                    return silver;
                case GILT:
                    return silver - 5;
                case URN:
                    return plain / 2;
                default:
                    return plain;
            }
        }

        int wets(int day) {
            switch (kind) {
                case BROWN:
                case COSY:
                case ROSE:
                    return day % 5 == 0 ? 1 : 0;
                case SILVER:
                    return 1;
                case GILT:
                    return heat < 50 ? 0 : 1;
                default:
                    return 0;
            }
        }

        int holds() {
            int plain = 20;
            int brown = 2 * plain;
            int silver = plain - 5;
            switch (kind) {
                case BROWN:
                    return brown;
                case COSY:
                    return brown - 10;
                case ROSE:
                    return 6;
                case SILVER:
                case GILT:
                    return silver;
                case URN:
                    return 99;
                default:
                    return plain;
            }
        }

        boolean canPour() {
            return stands == 1 && cups > 0;
        }

        int pour(int voters, int day) {
            int poured = Math.min(cups, voters);
            if (poured > 0) {
                cups -= poured;
                dribble = Math.min(MOST_DRIBBLE, dribble + wets(day));
            }
            return poured;
        }

        void win(int poured) {
            won = Math.min(MOST_WON, won + 1);
            votes = Math.min(MOST_VOTES, votes + poured);
        }

        void cool() {
            heat = Math.max(0, heat - cools());
        }

        void fill() {
            cups = holds();
            heat = HOT;
        }
    }

    /** All that an image keeps: wards, the list, teapots, the day, z, spots. */
    private static final class Borough {
        final int[] voters = new int[WARDS];
        final int[] tastes = new int[WARDS];
        final int[] list = new int[TRIALS];
        final Teapot[] pots = new Teapot[TEAPOTS];
        final int[] spots = new int[SPOTS];
        int number;
        int day;
        int z;

        Borough() {
            for (int i = 0; i < WARDS; i++) {
                voters[i] = 10;
                tastes[i] = 60;
            }
            for (int i = 0; i < TRIALS; i++) {
                list[i] = i;
            }
            for (int i = 0; i < TEAPOTS; i++) {
                pots[i] = new Teapot();
            }
            for (int i = 0; i < SPOTS; i++) {
                spots[i] = -1;
            }
            number = 0;
            day = 0;
            z = 1;
        }

        void become(Borough other) {
            System.arraycopy(other.voters, 0, voters, 0, WARDS);
            System.arraycopy(other.tastes, 0, tastes, 0, WARDS);
            System.arraycopy(other.list, 0, list, 0, TRIALS);
            System.arraycopy(other.spots, 0, spots, 0, SPOTS);
            for (int i = 0; i < TEAPOTS; i++) {
                pots[i].become(other.pots[i]);
            }
            number = other.number;
            day = other.day;
            z = other.z;
        }

        // Asked only while there is room: teapot() and a TEXT each tell a 9th in their own way.
        Teapot place(int kind, int heat) {
            int last = Math.min(number, TEAPOTS - 1);
            pots[last].renew(kind, heat);
            number = last + 1;
            return pots[last];
        }

        int draw() {
            z = z * 1103515245 + 12345;
            return z >>> 8;
        }

        int winnerIn(int ward) {
            int best = -1;
            int most = -1;
            if (voters[ward] == 0) {
                return best;
            }
            for (int i = 0; i < number; i++) {
                if (pots[i].canPour()) {
                    int merit = pots[i].meritFor(ward, voters[ward], tastes[ward]);
                    if (merit > most) {
                        best = i;
                        most = merit;
                    }
                }
            }
            return best;
        }

        void pass(int days) {
            for (int i = 0; i < days; i++) {
                passDay();
            }
        }

        void passDay() {
            int ward = list[day % TRIALS];
            int winner = winnerIn(ward);
            for (int i = 0; i < number; i++) {
                if (pots[i].canPour()) {
                    int poured = pots[i].pour(voters[ward], day);
                    if (i == winner) {
                        pots[i].win(poured);
                    }
                }
            }
            endDay(day % TRIALS == TRIALS - 1);
        }

        void endDay(boolean filled) {
            for (int i = 0; i < number; i++) {
                if (pots[i].stands == 1) {
                    pots[i].cool();
                    if (filled) {
                        pots[i].fill();
                    }
                }
            }
            day = Math.min(LAST_DAY, day + 1);
        }

        int leader() {
            return mostStanding(OF_VOTES);
        }

        int mostStanding(int what) {
            int best = -1;
            int most = -1;
            for (int i = 0; i < number; i++) {
                if (pots[i].stands == 1 && pots[i].told(what) > most) {
                    best = i;
                    most = pots[i].told(what);
                }
            }
            return best;
        }

        int sum(int what) {
            int all = 0;
            for (int i = 0; i < number; i++) {
                all += pots[i].told(what);
            }
            return all;
        }

        int cupsStanding() {
            int all = 0;
            for (int i = 0; i < number; i++) {
                all += pots[i].stands == 1 ? pots[i].cups : 0;
            }
            return all;
        }

        int standing() {
            int set = 0;
            for (int i = 0; i < number; i++) {
                set |= pots[i].stands << i;
            }
            return set;
        }

        int wardsWon() {
            int set = 0;
            for (int ward = 0; ward < WARDS; ward++) {
                if (winnerIn(ward) >= 0) {
                    set |= 1 << ward;
                }
            }
            return set;
        }

        int spotsHolding() {
            int many = 0;
            for (int i = 0; i < SPOTS; i++) {
                if (spots[i] >= 0) {
                    many++;
                }
            }
            return many;
        }
    }

    /** A row of numbers; while it is MISSING its bits are 0 and it has no numbers. */
    private static final class Sheet {
        final int[] numbers = new int[SHEET_NUMBERS];
        int bits;
        int length;

        boolean isMissing() {
            return bits == 0;
        }

        void lay(int newBits, int n) {
            bits = newBits;
            length = newBits == 0 ? 0 : n;
            for (int i = 0; i < SHEET_NUMBERS; i++) {
                numbers[i] = 0;
            }
        }

        void put(int i, int v) {
            if (bits == 8) {
                numbers[i] = (byte) v;
            } else if (bits == 16) {
                numbers[i] = (short) v;
            } else {
                numbers[i] = v;
            }
        }

        // from + n could wrap round.
        boolean hasPart(int from, int n) {
            return from >= 0 && n >= 0 && from <= length && n <= length - from;
        }
    }

    /** THE TAPE and, while it is read, its present token. */
    private static final class Tape {
        static final int END = 0;
        static final int WORD = 1;
        static final int NUMBER = 2;
        static final int SIGN = 3;
        static final int WRONG = 4;
        static final int TOO_MUCH = 100000;

        final int[] bytes = new int[TAPE_BYTES];
        int length;
        int start;
        int next;
        int sort;
        int value;

        void add(int b) {
            if (length < TAPE_BYTES) {
                bytes[length] = b;
                length++;
            }
        }

        void begin() {
            next = 0;
            advance();
        }

        void advance() {
            start = next;
            while (start < length && bytes[start] == ' ') {
                start++;
            }
            next = start;
            if (start >= length) {
                sort = END;
            } else if (isLetter(bytes[start])) {
                takeWord();
            } else if (isDigit(bytes[start])) {
                takeNumber();
            } else {
                sort = bytes[start] == ';' ? SIGN : WRONG;
                next = start + 1;
            }
        }

        private void takeWord() {
            sort = WORD;
            while (next < length && isLetter(bytes[next])) {
                next++;
            }
        }

        // A NUMBER of many digits is too much however many follow, so the value stops there.
        private void takeNumber() {
            sort = NUMBER;
            value = 0;
            while (next < length && isDigit(bytes[next])) {
                value = Math.min(TOO_MUCH, value * 10 + bytes[next] - '0');
                next++;
            }
        }

        boolean isWord(String word) {
            if (sort != WORD || next - start != word.length()) {
                return false;
            }
            for (int i = 0; i < word.length(); i++) {
                if (bytes[start + i] != word.charAt(i)) {
                    return false;
                }
            }
            return true;
        }

        boolean isNumber(int most) {
            return sort == NUMBER && value <= most;
        }

        private static boolean isLetter(int b) {
            return b >= 'a' && b <= 'z';
        }

        private static boolean isDigit(int b) {
            return b >= '0' && b <= '9';
        }
    }
}
