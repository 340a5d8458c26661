/**
 * A town of rafts on a sea with streams: floats, ropes, persons, water, law and plans, day by day.
 * The document calls a raft a FLOAT; sets of floats, ropes and persons are told by bits.
 */
public final class RaftTown {
    private static final int BEYOND = -100001;
    private static final int MISSING = -100002;
    private static final int SIZE = -100003;
    private static final int KIND = -100004;
    private static final int FULL = -100005;
    private static final int NONE = -100006;
    private static final int TAKEN = -100007;
    private static final int APART = -100008;
    private static final int BARRED = -100009;
    private static final int LEAST_PLAIN_ANSWER = -99999;

    private static final int CELLS = 36;
    private static final int WIDTH = 6;
    private static final int RAFTS = 10;
    private static final int PERSONS = 14;
    private static final int ROPES = 12;
    private static final int SIDES = 4;
    private static final int EVENTS = 40;
    private static final int LAWS = 12;
    private static final int TEXTS = 5;
    private static final int TAPE = 160;
    private static final int SHEETS = 4;
    private static final int NUMBERS = 20;

    private static final int MOST_WAVES = 20;
    private static final int MOST_RAIN = 9;
    private static final int MOST_DAYS = 30;
    private static final int MOST = 99;
    private static final int EARLIEST_BORN = -9999;
    private static final int LAST_THIRST = 3;
    private static final int WITHOUT_END = 9999;

    private static final int KINDS = 6;
    private static final int HALL = 2;
    private static final int GARDEN = 3;
    private static final int SAIL = 4;
    private static final int WRECK = 5;
    private static final int[] AREA = {1, 2, 3, 2, 1, 0};
    private static final int[] KIND_ABOVE = {-1, 0, 1, 1, 0, 1};

    private static final int[] BESIDE_X = {-1, 1, 0, 0};
    private static final int[] BESIDE_Y = {0, 0, -1, 1};

    private static final int LAID = 1;
    private static final int ROPE_CUT = 2;
    private static final int PARTED = 3;
    private static final int SUNK = 4;
    private static final int LOST = 5;
    private static final int IN_FORCE = 6;

    private static final int NAMES = 9;
    private static final int WORDS = 15;
    private static final int WORD_TIE = 9;
    private static final int WORD_CUT = 10;
    private static final int WORD_SPEAK = 11;
    private static final int WORD_OR = 12;
    private static final int WORD_AND = 13;
    private static final int WORD_NOT = 14;
    private static final int NUMBER = 15;
    private static final int OPEN = 16;
    private static final int CLOSE = 17;
    private static final int STOP = 18;
    private static final int PLUS = 19;
    private static final int MINUS = 20;
    private static final int LESS = 21;
    private static final int SAME = 22;
    private static final int END = 23;
    private static final int BAD = 24;

    private static final int BLANK = 32;
    private static final int DEEPEST = 4;
    private static final int DIGITS = 4;

    private static final int CLAUSES = 3;
    private static final int TIE_CLAUSE = 0;
    private static final int CUT_CLAUSE = 1;
    private static final int SPEAK_CLAUSE = 2;
    // Each of the five levels of brackets keeps at most four left sides open, and one more is on top.
    private static final int OPEN_VALUES = 24;

    private final Town town;
    private final Town kept;
    private boolean hasImage;
    private final Sheet[] sheets;
    private final Tape tape;
    private final Net net;
    private final Judge judge;
    private int findings;

    public RaftTown() {
        town = new Town();
        kept = new Town();
        hasImage = false;
        sheets = new Sheet[SHEETS];
        for (int s = 0; s < SHEETS; s++) {
            sheets[s] = new Sheet();
        }
        tape = new Tape();
        net = new Net();
        judge = new Judge();
        findings = 0;
    }

    // ---- sea, floats

    public int stream(int cell, int x, int y) {
        if (!isCell(cell) || !within(x, -1, 1) || !within(y, -1, 1)) {
            return noted(BEYOND);
        }
        town.sea.lead(cell, x, y);
        return 1;
    }

    public int raft(int kind, int cell, int planks, int hold) {
        if (!isKind(kind) || !isCell(cell) || !within(planks, 1, MOST) || !within(hold, 0, MOST)) {
            return noted(BEYOND);
        }
        if (town.raftCount >= RAFTS) {
            return noted(FULL);
        }
        return town.addRaft(kind, cell, planks, hold);
    }

    public int as(int raft, int kind) {
        if (!town.hasRaft(raft) || !isKind(kind)) {
            return noted(BEYOND);
        }
        return town.raftAt(raft).isOf(kind) ? raft : noted(KIND);
    }

    public int raftIs(int raft, int what) {
        if (!town.hasRaft(raft)) {
            return noted(BEYOND);
        }
        Raft one = town.raftAt(raft);
        switch (what) {
            case 0: return one.kind;
            case 1: return one.cell;
            case 2: return one.planks;
            case 3: return one.hold;
            case 4: return one.water;
            case 5: return one.goods;
            case 6: return surveyed().weightAt(raft);
            case 7: return one.area();
            case 8: return leastOf(surveyed().partOf(raft));
            case 9: return one.sunk ? 1 : 0;
            default: return noted(BEYOND);
        }
    }

    public int load(int raft, int n, boolean goods) {
        if (!town.hasRaft(raft) || !within(n, 0, MOST)) {
            return noted(BEYOND);
        }
        Raft one = town.raftAt(raft);
        if (one.sunk) {
            return noted(NONE);
        }
        if (one.room() < n) {
            return noted(FULL);
        }
        return one.stow(n, goods);
    }

    public int trade(int from, int to, int n, boolean goods) {
        if (!town.hasRaft(from) || !town.hasRaft(to) || !within(n, 0, MOST)) {
            return noted(BEYOND);
        }
        Raft giver = town.raftAt(from);
        Raft taker = town.raftAt(to);
        if (giver.sunk || taker.sunk) {
            return noted(NONE);
        }
        if (from == to) {
            return noted(SIZE);
        }
        if (!surveyed().inOnePart(from, to)) {
            return noted(APART);
        }
        if (giver.casks(goods) < n) {
            return noted(MISSING);
        }
        if (taker.room() < n) {
            return noted(FULL);
        }
        giver.stow(-n, goods);
        return taker.stow(n, goods);
    }

    // ---- persons

    public int person(int raft, int born, int one, int two) {
        if (!town.hasRaft(raft) || !within(born, EARLIEST_BORN, 0) || !areParents(one, two)) {
            return noted(BEYOND);
        }
        if (town.raftAt(raft).sunk) {
            return noted(NONE);
        }
        if (town.personCount >= PERSONS) {
            return noted(FULL);
        }
        return town.addPerson(raft, born, one, two);
    }

    public int wed(int a, int b) {
        if (!town.hasPerson(a) || !town.hasPerson(b)) {
            return noted(BEYOND);
        }
        if (a == b) {
            return noted(SIZE);
        }
        Person one = town.personAt(a);
        Person other = town.personAt(b);
        if (one.lost || other.lost) {
            return noted(NONE);
        }
        if (one.wedTo >= 0 || other.wedTo >= 0) {
            return noted(TAKEN);
        }
        one.wedTo = b;
        other.wedTo = a;
        return 1;
    }

    public int move(int person, int raft) {
        if (!town.hasPerson(person) || !town.hasRaft(raft)) {
            return noted(BEYOND);
        }
        Person one = town.personAt(person);
        if (one.lost || town.raftAt(raft).sunk) {
            return noted(NONE);
        }
        int before = one.raft;
        if (!surveyed().inOnePart(before, raft)) {
            return noted(APART);
        }
        one.raft = raft;
        return before;
    }

    public int personIs(int person, int what) {
        if (!town.hasPerson(person)) {
            return noted(BEYOND);
        }
        Person one = town.personAt(person);
        switch (what) {
            case 0: return one.raft;
            case 1: return one.born;
            case 2: return one.wedTo;
            case 3: return one.lost ? 1 : 0;
            case 4: return one.thirst;
            case 5: return town.kinOf(person);
            default: return noted(BEYOND);
        }
    }

    // ---- ropes, parts

    public int tie(int a, int sideA, int b, int sideB, int strength) {
        if (!town.hasRaft(a) || !town.hasRaft(b) || !isSide(sideA) || !isSide(sideB)
                || !within(strength, 1, MOST)) {
            return noted(BEYOND);
        }
        if (a == b) {
            return noted(SIZE);
        }
        Raft one = town.raftAt(a);
        Raft other = town.raftAt(b);
        if (one.sunk || other.sunk) {
            return noted(NONE);
        }
        if (one.cell != other.cell) {
            return noted(APART);
        }
        if (!town.hasRoomAt(a, sideA) || !town.hasRoomAt(b, sideB)) {
            return noted(TAKEN);
        }
        int number = town.freeRope();
        if (number < 0) {
            return noted(FULL);
        }
        town.ropeAt(number).lay(a, sideA, b, sideB, strength);
        int joined = surveyed().partOf(a);
        town.log.add(LAID, number, town.today, joined);
        town.log.tellOn(joined);
        return number;
    }

    public int cut(int rope) {
        if (!town.hasRope(rope)) {
            return noted(BEYOND);
        }
        if (!town.ropeAt(rope).live) {
            return noted(NONE);
        }
        int whole = surveyed().partOf(town.ropeAt(rope).one);
        int ruling = town.log.lawOf(whole);
        if (ruling >= 0 && ropeRuling(ruling, rope, 0) == 0) {
            return noted(BARRED);
        }
        town.log.add(ROPE_CUT, rope, town.today, whole);
        town.ropeAt(rope).live = false;
        return surveyed().countParts();
    }

    public int rope(int rope, int what) {
        if (!town.hasRope(rope) || !within(what, 0, 6)) {
            return noted(BEYOND);
        }
        Rope one = town.ropeAt(rope);
        if (!one.live) {
            return noted(NONE);
        }
        switch (what) {
            case 0: return one.one;
            case 1: return one.two;
            case 2: return one.strength();
            case 3: return one.age;
            case 4: return surveyed().hang(rope, net.all);
            case 5: return one.sideOne;
            default: return one.sideTwo;
        }
    }

    public int bears(int rope, int waves) {
        if (!town.hasRope(rope) || !areWaves(waves)) {
            return noted(BEYOND);
        }
        if (!town.ropeAt(rope).live) {
            return noted(NONE);
        }
        return surveyed().loadOf(rope, net.all, waves);
    }

    public int parts() {
        return surveyed().countParts();
    }

    public int part(int raft) {
        if (!town.hasRaft(raft)) {
            return noted(BEYOND);
        }
        if (town.raftAt(raft).sunk) {
            return noted(NONE);
        }
        return surveyed().partOf(raft);
    }

    public int worst(int waves, int i) {
        if (!areWaves(waves) || i < -1) {
            return noted(BEYOND);
        }
        surveyed();
        if (i == -1) {
            return net.countParting(net.all, waves, ROPES);
        }
        int gone = net.partingAt(i, waves);
        return gone < 0 ? noted(NONE) : gone;
    }

    // ---- days

    public int day(int waves, int rain) {
        if (!areWaves(waves) || !isRain(rain)) {
            return noted(BEYOND);
        }
        return town.passDay(waves, rain, net);
    }

    public int days(int n, int sheet) {
        if (!within(n, 1, MOST_DAYS) || !isSheet(sheet)) {
            return noted(BEYOND);
        }
        Sheet row = sheets[sheet];
        if (row.isMissing()) {
            return noted(MISSING);
        }
        int waves = 0;
        int rain = 0;
        int parted = 0;
        for (int d = 0; d < n; d++) {
            int nextWaves = row.numberOr(2 * d, -1);
            int nextRain = row.numberOr(2 * d + 1, -1);
            if (areWaves(nextWaves) && isRain(nextRain)) {
                waves = nextWaves;
                rain = nextRain;
            }
            parted += town.passDay(waves, rain, net);
        }
        return parted;
    }

    public int lasts(int raft) {
        if (!town.hasRaft(raft)) {
            return noted(BEYOND);
        }
        if (town.raftAt(raft).sunk) {
            return noted(NONE);
        }
        int whole = surveyed().partOf(raft);
        int users = town.headsOf(whole) + town.countKind(whole, GARDEN);
        return users > 0 ? town.waterOf(whole) / users : WITHOUT_END;
    }

    // ---- law

    public int feed(int n, long bytes) {
        if (!within(n, 1, 8)) {
            return noted(BEYOND);
        }
        if (!tape.hasRoom(n)) {
            return noted(FULL);
        }
        return tape.append(n, bytes);
    }

    public int text(int t) {
        if (!isText(t)) {
            return noted(BEYOND);
        }
        int fault = tape.read();
        if (fault < 0) {
            town.textAt(t).take(tape.draft);
        }
        return fault;
    }

    public int force(int t, int raft) {
        if (!isText(t) || !town.hasRaft(raft)) {
            return noted(BEYOND);
        }
        if (!town.textAt(t).told || town.raftAt(raft).sunk) {
            return noted(NONE);
        }
        if (town.log.lawCount >= LAWS) {
            return noted(FULL);
        }
        return town.log.addLaw(t, town.today, surveyed().partOf(raft));
    }

    public int law(int raft) {
        if (!town.hasRaft(raft)) {
            return noted(BEYOND);
        }
        int ruling = lawAt(raft);
        return ruling < 0 ? noted(NONE) : ruling;
    }

    public int may(int rope, int waves) {
        if (!town.hasRope(rope) || !areWaves(waves)) {
            return noted(BEYOND);
        }
        Rope one = town.ropeAt(rope);
        int ruling = one.live ? lawAt(one.one) : -1;
        return noted(ruling < 0 ? NONE : ropeRuling(ruling, rope, waves));
    }

    public int must(int a, int b) {
        if (!town.hasRaft(a) || !town.hasRaft(b)) {
            return noted(BEYOND);
        }
        if (a == b) {
            return noted(SIZE);
        }
        int ruling = town.raftAt(b).sunk ? -1 : lawAt(a);
        if (ruling < 0) {
            return noted(NONE);
        }
        judge.nameRafts(town, a, b, net.partOf(a) | net.partOf(b));
        return noted(judge.comesTo(town.textOfLaw(ruling), TIE_CLAUSE));
    }

    public int speaks(int raft) {
        if (!town.hasRaft(raft)) {
            return noted(BEYOND);
        }
        int ruling = lawAt(raft);
        if (ruling < 0) {
            return noted(NONE);
        }
        int whole = net.partOf(raft);
        int speaker = -1;
        int most = 0;
        for (int p = 0; p < town.personCount; p++) {
            if (town.personAt(p).isAmong(whole)) {
                judge.namePerson(town, p, whole);
                int value = judge.comesTo(town.textOfLaw(ruling), SPEAK_CLAUSE);
                if (speaker < 0 || value > most) {
                    speaker = p;
                    most = value;
                }
            }
        }
        return speaker < 0 ? noted(NONE) : speaker;
    }

    // ---- what is known

    public int events(int raft) {
        if (raft == -1) {
            return town.log.size;
        }
        if (!town.hasRaft(raft)) {
            return noted(BEYOND);
        }
        return town.log.countKnown(1 << raft);
    }

    public int event(int i, int what) {
        if (!within(i, 0, town.log.size - 1) || !within(what, 0, 3)) {
            return noted(BEYOND);
        }
        return town.log.detail(i, what);
    }

    // ---- plans

    public int lash(int raft, int waves) {
        if (!town.hasRaft(raft) || !areWaves(waves)) {
            return noted(BEYOND);
        }
        if (town.raftAt(raft).sunk) {
            return noted(NONE);
        }
        int set = surveyed().fewestLashings(1 << raft, waves);
        return set < 0 ? noted(NONE) : set;
    }

    public int storm(int waves, boolean lost) {
        if (!areWaves(waves)) {
            return noted(BEYOND);
        }
        int set = surveyed().bestCuts(waves);
        return lost ? net.lostBy(set, waves, ROPES) : set;
    }

    public int proves(int set, int waves, int sheet) {
        surveyed();
        if ((set & ~net.all) != 0 || !areWaves(waves) || !isSheet(sheet)) {
            return noted(BEYOND);
        }
        Sheet row = sheets[sheet];
        if (row.isMissing()) {
            return noted(MISSING);
        }
        int due = Integer.bitCount(set);
        return row.length == due ? net.firstUnproved(set, waves, row) : due;
    }

    public int patch(int raft, int n) {
        if (!town.hasRaft(raft) || !within(n, 0, MOST_DAYS)) {
            return noted(BEYOND);
        }
        Raft one = town.raftAt(raft);
        if (one.sunk) {
            return noted(NONE);
        }
        return town.sea.patchSize(one.cell, n, hasSail(raft));
    }

    public int tow(int raft, int other) {
        if (!town.hasRaft(raft) || !town.hasRaft(other)) {
            return noted(BEYOND);
        }
        Raft one = town.raftAt(raft);
        Raft goal = town.raftAt(other);
        if (one.sunk || goal.sunk) {
            return noted(NONE);
        }
        int soonest = town.sea.soonest(one.cell, goal.cell, hasSail(raft));
        return soonest < 0 ? noted(NONE) : soonest;
    }

    // ---- sheets, the whole

    public int sheet(int s, int bits, int n) {
        if (!isSheet(s) || (bits != 0 && bits != 8 && bits != 16 && bits != 32)) {
            return noted(BEYOND);
        }
        if (n < 0) {
            return noted(SIZE);
        }
        if (n > NUMBERS) {
            return noted(BEYOND);
        }
        return sheets[s].rule(bits, n);
    }

    public int put(int s, int i, int v) {
        if (!isSheet(s)) {
            return noted(BEYOND);
        }
        Sheet row = sheets[s];
        if (row.isMissing()) {
            return noted(MISSING);
        }
        if (!within(i, 0, row.length - 1)) {
            return noted(BEYOND);
        }
        row.write(i, v);
        return 0;
    }

    public int copy(int s, int from, int t, int to, int n) {
        if (!isSheet(s) || !isSheet(t)) {
            return noted(BEYOND);
        }
        Sheet source = sheets[s];
        Sheet goal = sheets[t];
        if (source.isMissing() || goal.isMissing()) {
            return noted(MISSING);
        }
        if (source.bits != goal.bits) {
            return noted(KIND);
        }
        if (!source.hasRun(from, n) || !goal.hasRun(to, n)) {
            return noted(BEYOND);
        }
        System.arraycopy(source.row, from, goal.row, to, n);
        return n;
    }

    public int image() {
        kept.take(town);
        hasImage = true;
        return town.today;
    }

    public int restore() {
        if (!hasImage) {
            return noted(NONE);
        }
        town.take(kept);
        return town.today;
    }

    public int count(int what) {
        switch (what) {
            case 0: return town.countAfloat();
            case 1: return town.countAlive();
            case 2: return town.countRopes();
            case 3: return town.today;
            case 4: return town.countCasks();
            case 5: return town.used;
            case 6: return town.spilt;
            case 7: return findings;
            default: return noted(BEYOND);
        }
    }

    // ---- what the calls share

    private int noted(int answer) {
        if (answer < LEAST_PLAIN_ANSWER) {
            findings++;
        }
        return answer;
    }

    private Net surveyed() {
        net.survey(town);
        return net;
    }

    private int lawAt(int raft) {
        int whole = surveyed().partOf(raft);
        return town.raftAt(raft).sunk ? -1 : town.log.lawOf(whole);
    }

    /** The net has to be surveyed ahead of this. */
    private int ropeRuling(int ruling, int rope, int waves) {
        judge.nameRope(town, net, rope, waves);
        return judge.comesTo(town.textOfLaw(ruling), CUT_CLAUSE);
    }

    private boolean hasSail(int raft) {
        return town.countKind(surveyed().partOf(raft), SAIL) > 0;
    }

    private boolean areParents(int one, int two) {
        return within(one, -1, town.personCount - 1) && within(two, -1, town.personCount - 1)
                && (one < 0 || one != two);
    }

    private static boolean within(int n, int least, int most) {
        return n >= least && n <= most;
    }

    private static boolean isCell(int cell) {
        return within(cell, 0, CELLS - 1);
    }

    private static boolean isKind(int kind) {
        return within(kind, 0, KINDS - 1);
    }

    private static boolean isSide(int side) {
        return within(side, 0, SIDES - 1);
    }

    private static boolean isText(int t) {
        return within(t, 0, TEXTS - 1);
    }

    private static boolean isSheet(int s) {
        return within(s, 0, SHEETS - 1);
    }

    private static boolean areWaves(int waves) {
        return within(waves, 0, MOST_WAVES);
    }

    private static boolean isRain(int rain) {
        return within(rain, 0, MOST_RAIN);
    }

    private static boolean has(int set, int number) {
        return (set >> number & 1) != 0;
    }

    private static int leastOf(int set) {
        return Integer.numberOfTrailingZeros(set);
    }

    /** The streams, and where they can lead. */
    private static final class Sea {
        private final int[] streamX = new int[CELLS];
        private final int[] streamY = new int[CELLS];
        // Working row: to which cells one day leads from each.
        private final long[] steps = new long[CELLS];

        void take(Sea other) {
            System.arraycopy(other.streamX, 0, streamX, 0, CELLS);
            System.arraycopy(other.streamY, 0, streamY, 0, CELLS);
        }

        void lead(int cell, int x, int y) {
            if (isCell(cell)) {
                streamX[cell] = x;
                streamY[cell] = y;
            }
        }

        /** Where a step leads from a cell: the cell itself, if it would lead to none. */
        private static int stepped(int cell, int x, int y) {
            int toX = cell % WIDTH + x;
            int toY = cell / WIDTH + y;
            boolean leads = within(toX, 0, WIDTH - 1) && within(toY, 0, CELLS / WIDTH - 1);
            return leads ? toY * WIDTH + toX : cell;
        }

        /** Where the stream of one cell would lead from another. */
        private int ledBy(int streamCell, int cell) {
            return isCell(streamCell) ? stepped(cell, streamX[streamCell], streamY[streamCell]) : cell;
        }

        int drifted(int cell) {
            return ledBy(cell, cell);
        }

        int patchSize(int cell, int n, boolean sail) {
            for (int c = 0; c < CELLS; c++) {
                long choices = 1L << drifted(c) | (sail ? 1L << c : 0L);
                // At the edge the cell beside is the cell itself, whose stream is a choice anyway.
                for (int k = 0; k < SIDES; k++) {
                    choices |= 1L << ledBy(stepped(c, BESIDE_X[k], BESIDE_Y[k]), c);
                }
                steps[c] = choices;
            }
            long patch = 1L << cell;
            for (int d = 0; d < n; d++) {
                patch = aDayOn(patch);
            }
            return Long.bitCount(patch);
        }

        /** In how few days one can be where the other drifts to; -1: it can't. */
        int soonest(int cell, int goalCell, boolean sail) {
            for (int c = 0; c < CELLS; c++) {
                int drift = drifted(c);
                long choices = 1L << drift;
                for (int k = 0; sail && k < SIDES; k++) {
                    choices |= 1L << stepped(drift, BESIDE_X[k], BESIDE_Y[k]);
                }
                steps[c] = choices;
            }
            long patch = 1L << cell;
            int goal = goalCell;
            for (int d = 0; d <= MOST_DAYS; d++) {
                if ((patch >> goal & 1L) != 0) {
                    return d;
                }
                patch = aDayOn(patch);
                goal = drifted(goal);
            }
            return -1;
        }

        private long aDayOn(long patch) {
            long next = 0;
            for (int c = 0; c < CELLS; c++) {
                if ((patch >> c & 1L) != 0) {
                    next |= steps[c];
                }
            }
            return next;
        }
    }

    /** A FLOAT of the document. */
    private static final class Raft {
        private int kind;
        private int cell;
        private int planks;
        private int hold;
        private int water;
        private int goods;
        private boolean sunk;

        void take(Raft other) {
            launch(other.kind, other.cell, other.planks, other.hold);
            water = other.water;
            goods = other.goods;
            sunk = other.sunk;
        }

        void launch(int ofKind, int inCell, int ofPlanks, int ofHold) {
            kind = ofKind;
            cell = inCell;
            planks = ofPlanks;
            hold = ofHold;
            water = 0;
            goods = 0;
            sunk = false;
        }

        boolean isOf(int asked) {
            int above = kind;
            for (int k = 0; k < KINDS && isKind(above); k++) {
                if (above == asked) {
                    return true;
                }
                above = KIND_ABOVE[above];
            }
            return false;
        }

        int area() {
            return kind >= 0 && kind < KINDS ? AREA[kind] : 0;
        }

        int ownWeight() {
            return 5 + 2 * area() + water + goods + (kind == HALL ? 5 : 0);
        }

        int room() {
            return hold - water - goods;
        }

        int casks(boolean ofGoods) {
            return ofGoods ? goods : water;
        }

        int stow(int n, boolean ofGoods) {
            if (ofGoods) {
                goods += n;
            } else {
                water += n;
            }
            return casks(ofGoods);
        }
    }

    /** A PERSON; numbers of others are -1 where there is none. */
    private static final class Person {
        private int raft;
        private int born;
        private int one;
        private int two;
        private int wedTo;
        private int thirst;
        // A slot that is not yet a person is as if it were lost: on no raft.
        private boolean lost = true;

        void take(Person other) {
            arrive(other.raft, other.born, other.one, other.two);
            wedTo = other.wedTo;
            thirst = other.thirst;
            lost = other.lost;
        }

        void arrive(int onRaft, int bornOn, int parent, int otherParent) {
            raft = onRaft;
            born = bornOn;
            one = parent;
            two = otherParent;
            wedTo = -1;
            thirst = 0;
            lost = false;
        }

        boolean hasParent(int person) {
            return person >= 0 && (one == person || two == person);
        }

        boolean isOn(int asked) {
            return !lost && raft == asked;
        }

        /** Whether it is on one of a set of rafts. */
        boolean isAmong(int set) {
            return !lost && (set >> raft & 1) != 0;
        }
    }

    private static final class Rope {
        private int one;
        private int two;
        private int sideOne;
        private int sideTwo;
        private int toldStrength;
        private int age;
        private int wetDays;
        private boolean live;

        void take(Rope other) {
            lay(other.one, other.sideOne, other.two, other.sideTwo, other.toldStrength);
            age = other.age;
            wetDays = other.wetDays;
            live = other.live;
        }

        void lay(int a, int sideA, int b, int sideB, int ofStrength) {
            one = a;
            two = b;
            sideOne = sideA;
            sideTwo = sideB;
            toldStrength = ofStrength;
            age = 0;
            wetDays = 0;
            live = true;
        }

        int strength() {
            return Math.max(0, toldStrength - age / 3 - 2 * wetDays);
        }

        boolean isAt(int raft) {
            return live && (one == raft || two == raft);
        }

        boolean isAtSide(int raft, int side) {
            return live && ((one == raft && sideOne == side) || (two == raft && sideTwo == side));
        }
    }

    /** The latest events and all laws, with the rafts that know them. */
    private static final class Log {
        // Rings that begin at the first event that is led.
        private final int[] whats = new int[EVENTS];
        private final int[] numbers = new int[EVENTS];
        private final int[] days = new int[EVENTS];
        private final int[] knowers = new int[EVENTS];
        private int first;
        private int size;
        private final int[] lawText = new int[LAWS];
        // Kept beside the events, since a law stays known when its event is led no more.
        private final int[] lawKnown = new int[LAWS];
        private int lawCount;

        void take(Log other) {
            System.arraycopy(other.whats, 0, whats, 0, EVENTS);
            System.arraycopy(other.numbers, 0, numbers, 0, EVENTS);
            System.arraycopy(other.days, 0, days, 0, EVENTS);
            System.arraycopy(other.knowers, 0, knowers, 0, EVENTS);
            first = other.first;
            size = other.size;
            System.arraycopy(other.lawText, 0, lawText, 0, LAWS);
            System.arraycopy(other.lawKnown, 0, lawKnown, 0, LAWS);
            lawCount = other.lawCount;
        }

        private int placeOf(int i) {
            int place = (first + i) % EVENTS;
            return place < 0 ? 0 : place;
        }

        /** Of the i-th event: 0 what it was, 1 the number, 2 the day, 3 who knows it. */
        int detail(int i, int asked) {
            int place = placeOf(i);
            switch (asked) {
                case 0: return whats[place];
                case 1: return numbers[place];
                case 2: return days[place];
                default: return knowers[place];
            }
        }

        void add(int what, int number, int day, int known) {
            if (size < EVENTS) {
                size++;
            } else {
                first = (first + 1) % EVENTS;
            }
            int place = placeOf(size - 1);
            whats[place] = what;
            numbers[place] = number;
            days[place] = day;
            knowers[place] = known;
        }

        int addLaw(int t, int day, int known) {
            int number = lawCount;
            if (number < LAWS) {
                lawText[number] = t;
                lawKnown[number] = known;
                lawCount++;
                add(IN_FORCE, number, day, known);
            }
            return number;
        }

        /** All of a set of rafts get to know all that one of them does. */
        void tellOn(int set) {
            for (int i = 0; i < EVENTS; i++) {
                if ((knowers[i] & set) != 0) {
                    knowers[i] |= set;
                }
            }
            for (int l = 0; l < lawCount && l < LAWS; l++) {
                if ((lawKnown[l] & set) != 0) {
                    lawKnown[l] |= set;
                }
            }
        }

        int countKnown(int set) {
            int n = 0;
            for (int i = 0; i < EVENTS; i++) {
                if ((knowers[i] & set) != 0) {
                    n++;
                }
            }
            return n;
        }

        /** The latest law that one of a set of rafts knows; -1: none. */
        int lawOf(int set) {
            int latest = -1;
            for (int l = 0; l < lawCount && l < LAWS; l++) {
                if ((lawKnown[l] & set) != 0) {
                    latest = l;
                }
            }
            return latest;
        }

        int textOf(int ruling) {
            return within(ruling, 0, LAWS - 1) ? lawText[ruling] : 0;
        }
    }

    /** All that an image keeps. */
    private static final class Town {
        private final Sea sea = new Sea();
        private final Raft[] rafts = new Raft[RAFTS];
        private int raftCount;
        private final Person[] persons = new Person[PERSONS];
        private int personCount;
        private final Rope[] ropes = new Rope[ROPES];
        private int ropeCount;
        private final Log log = new Log();
        private final Text[] texts = new Text[TEXTS];
        private int today;
        private int used;
        private int spilt;

        Town() {
            for (int i = 0; i < RAFTS; i++) {
                rafts[i] = new Raft();
            }
            for (int i = 0; i < PERSONS; i++) {
                persons[i] = new Person();
            }
            for (int i = 0; i < ROPES; i++) {
                ropes[i] = new Rope();
            }
            for (int i = 0; i < TEXTS; i++) {
                texts[i] = new Text();
            }
        }

        void take(Town other) {
            sea.take(other.sea);
            for (int i = 0; i < RAFTS; i++) {
                rafts[i].take(other.rafts[i]);
            }
            raftCount = other.raftCount;
            for (int i = 0; i < PERSONS; i++) {
                persons[i].take(other.persons[i]);
            }
            personCount = other.personCount;
            for (int i = 0; i < ROPES; i++) {
                ropes[i].take(other.ropes[i]);
            }
            ropeCount = other.ropeCount;
            log.take(other.log);
            for (int i = 0; i < TEXTS; i++) {
                texts[i].take(other.texts[i]);
            }
            today = other.today;
            used = other.used;
            spilt = other.spilt;
        }

        boolean hasRaft(int raft) {
            return within(raft, 0, raftCount - 1);
        }

        boolean hasPerson(int person) {
            return within(person, 0, personCount - 1);
        }

        boolean hasRope(int rope) {
            return within(rope, 0, ropeCount - 1);
        }

        Raft raftAt(int raft) {
            return rafts[within(raft, 0, RAFTS - 1) ? raft : 0];
        }

        Person personAt(int person) {
            return persons[within(person, 0, PERSONS - 1) ? person : 0];
        }

        Rope ropeAt(int rope) {
            return ropes[within(rope, 0, ROPES - 1) ? rope : 0];
        }

        Text textAt(int t) {
            return texts[isText(t) ? t : 0];
        }

        Text textOfLaw(int ruling) {
            return textAt(log.textOf(ruling));
        }

        int addRaft(int kind, int cell, int planks, int hold) {
            int number = raftCount;
            raftAt(number).launch(kind, cell, planks, hold);
            raftCount++;
            return number;
        }

        int addPerson(int raft, int born, int one, int two) {
            int number = personCount;
            personAt(number).arrive(raft, born, one, two);
            personCount++;
            return number;
        }

        boolean hasRoomAt(int raft, int side) {
            int taken = 0;
            for (int r = 0; r < ROPES; r++) {
                if (ropes[r].isAtSide(raft, side)) {
                    taken++;
                }
            }
            return taken < (raftAt(raft).kind == HALL ? 2 : 1);
        }

        /** The least number of a rope that is no more, or a new one; -1: all are taken. */
        int freeRope() {
            for (int r = 0; r < ROPES; r++) {
                if (!ropes[r].live) {
                    ropeCount = Math.max(ropeCount, r + 1);
                    return r;
                }
            }
            return -1;
        }

        private boolean areKin(int a, int b) {
            Person one = personAt(a);
            Person other = personAt(b);
            return a != b && (one.hasParent(b) || other.hasParent(a) || other.hasParent(one.one)
                    || other.hasParent(one.two) || one.wedTo == b);
        }

        int kinOf(int person) {
            int set = 0;
            for (int p = 0; p < personCount; p++) {
                if (areKin(person, p)) {
                    set |= 1 << p;
                }
            }
            return set;
        }

        int personsOf(int set) {
            int aboard = 0;
            for (int p = 0; p < PERSONS; p++) {
                if (persons[p].isAmong(set)) {
                    aboard |= 1 << p;
                }
            }
            return aboard;
        }

        int headsOf(int set) {
            return Integer.bitCount(personsOf(set));
        }

        /** How many pairs of kin there are with one on each of two rafts. */
        int kinBetween(int a, int b) {
            int there = personsOf(1 << b);
            int pairs = 0;
            for (int p = 0; p < PERSONS; p++) {
                if (persons[p].isOn(a)) {
                    pairs += Integer.bitCount(kinOf(p) & there);
                }
            }
            return pairs;
        }

        int waterOf(int set) {
            int water = 0;
            for (int i = 0; i < RAFTS; i++) {
                if (has(set, i)) {
                    water += rafts[i].water;
                }
            }
            return water;
        }

        int countKind(int set, int kind) {
            int n = 0;
            for (int i = 0; i < RAFTS; i++) {
                if (has(set, i) && rafts[i].kind == kind) {
                    n++;
                }
            }
            return n;
        }

        int countAfloat() {
            int n = 0;
            for (int i = 0; i < raftCount; i++) {
                if (!raftAt(i).sunk) {
                    n++;
                }
            }
            return n;
        }

        int countAlive() {
            int n = 0;
            for (int p = 0; p < PERSONS; p++) {
                if (!persons[p].lost) {
                    n++;
                }
            }
            return n;
        }

        int countRopes() {
            int n = 0;
            for (int r = 0; r < ROPES; r++) {
                if (ropes[r].live) {
                    n++;
                }
            }
            return n;
        }

        int countCasks() {
            int n = 0;
            for (int i = 0; i < RAFTS; i++) {
                n += rafts[i].water + rafts[i].goods;
            }
            return n;
        }

        // ---- a day, step by step

        int passDay(int waves, int rain, Net net) {
            net.survey(this);
            int parted = partUnder(waves, net);
            catchRain(rain);
            waterGardens();
            drinkAll(net);
            ageRopes(rain > 0);
            rot(net);
            drift();
            today++;
            return parted;
        }

        private int partUnder(int waves, Net net) {
            int gone = 0;
            for (int n = 0; n < ROPES; n++) {
                int r = net.worstOf(net.all, waves);
                if (r < 0) {
                    break;
                }
                log.add(PARTED, r, today, net.partOf(ropeAt(r).one));
                ropeAt(r).live = false;
                net.drop(r);
                gone++;
            }
            return gone;
        }

        private void catchRain(int rain) {
            for (int i = 0; i < raftCount; i++) {
                Raft one = raftAt(i);
                if (!one.sunk) {
                    one.stow(Math.min(rain * one.area(), one.room()), false);
                }
            }
        }

        private void waterGardens() {
            for (int i = 0; i < raftCount; i++) {
                Raft one = raftAt(i);
                if (one.kind == GARDEN && one.water > 0) {
                    one.water--;
                    used++;
                }
            }
        }

        private void drinkAll(Net net) {
            for (int p = 0; p < personCount; p++) {
                Person one = personAt(p);
                if (!one.lost) {
                    drink(p, net.partOf(one.raft));
                }
            }
        }

        private void drink(int person, int whole) {
            Person one = personAt(person);
            Raft source = raftAt(one.raft);
            if (source.water == 0) {
                source = fullestOf(whole);
            }
            if (source.water > 0) {
                source.water--;
                used++;
                one.thirst = 0;
                return;
            }
            one.thirst++;
            if (one.thirst >= LAST_THIRST) {
                lose(person, whole);
            }
        }

        private Raft fullestOf(int set) {
            Raft fullest = raftAt(leastOf(set));
            for (int i = 0; i < RAFTS; i++) {
                if (has(set, i) && rafts[i].water > fullest.water) {
                    fullest = rafts[i];
                }
            }
            return fullest;
        }

        private void lose(int person, int whole) {
            log.add(LOST, person, today, whole);
            personAt(person).lost = true;
        }

        private void ageRopes(boolean wet) {
            for (int r = 0; r < ROPES; r++) {
                if (ropes[r].live) {
                    ropes[r].age++;
                    ropes[r].wetDays += wet ? 1 : 0;
                }
            }
        }

        private void rot(Net net) {
            boolean tenth = today % 10 == 0;
            for (int i = 0; i < raftCount; i++) {
                Raft one = raftAt(i);
                if (!one.sunk && (one.kind == WRECK || tenth)) {
                    one.planks--;
                    if (one.planks <= 0) {
                        sink(i, net);
                    }
                }
            }
        }

        private void sink(int raft, Net net) {
            int whole = net.partOf(raft);
            int others = whole & ~(1 << raft);
            log.add(SUNK, raft, today, whole);
            for (int p = 0; p < PERSONS; p++) {
                if (persons[p].isOn(raft) && others != 0) {
                    persons[p].raft = leastOf(others);
                } else if (persons[p].isOn(raft)) {
                    lose(p, whole);
                }
            }
            Raft one = raftAt(raft);
            spilt += one.water + one.goods;
            one.water = 0;
            one.goods = 0;
            one.sunk = true;
            for (int r = 0; r < ROPES; r++) {
                if (ropes[r].isAt(raft)) {
                    ropes[r].live = false;
                }
            }
            net.survey(this);
        }

        /** Raft by raft, since all rafts of a part are in one cell. */
        private void drift() {
            for (int i = 0; i < raftCount; i++) {
                Raft one = raftAt(i);
                if (!one.sunk) {
                    one.cell = sea.drifted(one.cell);
                }
            }
        }
    }

    /** The ropes as they were at the last survey: who hangs on what, and what would part. */
    private static final class Net {
        private final int[] ends = new int[ROPES];
        private final int[] strength = new int[ROPES];
        private final int[] lighter = new int[ROPES];
        private final int[] weight = new int[RAFTS];
        private int all;
        private int afloat;

        void survey(Town town) {
            afloat = 0;
            for (int i = 0; i < RAFTS; i++) {
                weight[i] = town.raftAt(i).ownWeight();
                if (town.hasRaft(i) && !town.raftAt(i).sunk) {
                    afloat |= 1 << i;
                }
            }
            for (int p = 0; p < PERSONS; p++) {
                Person person = town.personAt(p);
                if (!person.lost && within(person.raft, 0, RAFTS - 1)) {
                    weight[person.raft] += 2;
                }
            }
            all = 0;
            for (int r = 0; r < ROPES; r++) {
                Rope rope = town.ropeAt(r);
                ends[r] = 1 << rope.one | 1 << rope.two;
                strength[r] = rope.strength();
                lighter[r] = Math.min(weightAt(rope.one), weightAt(rope.two));
                if (rope.live) {
                    all |= 1 << r;
                }
            }
        }

        int weightAt(int raft) {
            return within(raft, 0, RAFTS - 1) ? weight[raft] : 0;
        }

        void drop(int rope) {
            all &= ~(1 << rope);
        }

        /** All rafts that ropes of a set join, again and again, to those given. */
        private int reach(int from, int set) {
            int reached = from;
            for (int round = 0; round < RAFTS; round++) {
                int before = reached;
                for (int r = 0; r < ROPES; r++) {
                    if ((set >> r & 1) != 0 && (ends[r] & reached) != 0) {
                        reached |= ends[r];
                    }
                }
                if (reached == before) {
                    break;
                }
            }
            return reached;
        }

        int partOf(int raft) {
            return reach(1 << raft, all);
        }

        boolean inOnePart(int a, int b) {
            return has(partOf(a), b);
        }

        int countParts() {
            int n = 0;
            int rest = afloat;
            for (int i = 0; i < RAFTS; i++) {
                if (has(rest, i)) {
                    rest &= ~partOf(i);
                    n++;
                }
            }
            return n;
        }

        private int weigh(int set) {
            int sum = 0;
            for (int i = 0; i < RAFTS; i++) {
                if ((set >> i & 1) != 0) {
                    sum += weight[i];
                }
            }
            return sum;
        }

        /** The HANG of a rope, if there were the ropes of a set alone. */
        int hang(int rope, int set) {
            if (!within(rope, 0, ROPES - 1)) {
                return 0;
            }
            int pair = ends[rope];
            int end = pair & -pair;
            int others = set & ~(1 << rope);
            int side = reach(end, others);
            if ((side & pair) == pair) {
                return lighter[rope] / 2;
            }
            return Math.min(weigh(side), weigh(reach(pair & ~end, others)));
        }

        int loadOf(int rope, int set, int waves) {
            return waves * hang(rope, set) / 8;
        }

        /** The rope of a set that would part first; -1: none would. */
        int worstOf(int set, int waves) {
            int worst = -1;
            int most = 0;
            for (int r = 0; r < ROPES; r++) {
                if (has(set, r)) {
                    int above = loadOf(r, set, waves) - strength[r];
                    if (above > most) {
                        worst = r;
                        most = above;
                    }
                }
            }
            return worst;
        }

        /** How many ropes of a set would part, counted no further than a limit. */
        int countParting(int set, int waves, int limit) {
            int rest = set;
            int gone = 0;
            for (int n = 0; n < ROPES && gone < limit; n++) {
                int r = worstOf(rest, waves);
                if (r < 0) {
                    break;
                }
                rest &= ~(1 << r);
                gone++;
            }
            return gone;
        }

        /** The i-th rope that would part; -1: there are not so many. */
        int partingAt(int i, int waves) {
            int rest = all;
            for (int n = 0; n < ROPES && n <= i; n++) {
                int r = worstOf(rest, waves);
                if (r < 0 || n == i) {
                    return r;
                }
                rest &= ~(1 << r);
            }
            return -1;
        }

        private boolean holds(int set, int waves) {
            for (int r = 0; r < ROPES; r++) {
                if (has(set, r) && loadOf(r, set, waves) > strength[r]) {
                    return false;
                }
            }
            return true;
        }

        /** Whether a rope is the only way between its two ends, if there were the ropes of a set alone. */
        private boolean isBridge(int rope, int set) {
            int pair = within(rope, 0, ROPES - 1) ? ends[rope] : 0;
            return (reach(pair & -pair, set & ~(1 << rope)) & pair) != pair;
        }

        private int bridgesOf(int set) {
            int bridges = 0;
            for (int r = 0; r < ROPES; r++) {
                if (has(set, r) && isBridge(r, set)) {
                    bridges |= 1 << r;
                }
            }
            return bridges;
        }

        /** Ropes that hold in no set at all: where these are out, others may be bound to part, too. */
        private int doomed(int waves) {
            int doomed = 0;
            for (int round = 0; round < ROPES; round++) {
                int more = doomedOf(all & ~doomed, waves);
                if (more == 0) {
                    break;
                }
                doomed |= more;
            }
            return doomed;
        }

        /**
         * Ropes of a set that hold in no part of it: a bridge stays one there, and has at least the
         * lighter of its two rafts hang on it.
         */
        private int doomedOf(int set, int waves) {
            int doomed = 0;
            for (int r = 0; r < ROPES; r++) {
                boolean holdsAsBridge = waves * lighter[r] / 8 <= strength[r];
                if (has(set, r) && !holdsAsBridge
                        && (waves * (lighter[r] / 2) / 8 > strength[r] || isBridge(r, set))) {
                    doomed |= 1 << r;
                }
            }
            return doomed;
        }

        private int ropesOf(int whole) {
            int set = 0;
            for (int r = 0; r < ROPES; r++) {
                if (has(all, r) && (ends[r] & whole) != 0) {
                    set |= 1 << r;
                }
            }
            return set;
        }

        /** The fewest ropes that join the part of a raft (given as a bit) and hold; -1: there are none. */
        int fewestLashings(int raft, int waves) {
            int whole = reach(raft, all);
            int ropes = ropesOf(whole);
            int lashings = ropes & ~doomed(waves);
            int needed = bridgesOf(ropes);
            int fewest = ROPES + 1;
            int best = -1;
            for (int set = 0; set <= lashings; set++) {
                int n = Integer.bitCount(set);
                if ((set & ~lashings) == 0 && (needed & ~set) == 0 && n < fewest
                        && reach(raft, set) == whole && holds(set, waves)) {
                    fewest = n;
                    best = set;
                }
            }
            return best;
        }

        /** How many ropes the greatest set that holds has. */
        private int mostKept(int ropes, int waves) {
            int most = 0;
            for (int set = ropes; set > 0; set--) {
                int n = Integer.bitCount(set);
                if ((set & ~ropes) == 0 && n > most && holds(set, waves)) {
                    most = n;
                }
            }
            return most;
        }

        /** How many ropes are lost if some are cut, counted no further than a limit. */
        int lostBy(int cuts, int waves, int limit) {
            int n = Integer.bitCount(cuts);
            return n + countParting(all & ~cuts, waves, limit - n);
        }

        /**
         * The ropes to cut so that the fewest are lost. What is left behind waves holds, and what holds is
         * left if all others are cut: so the fewest are those beside the greatest set that holds.
         */
        int bestCuts(int waves) {
            int doomed = doomed(waves);
            int fewest = Integer.bitCount(all) - mostKept(all & ~doomed, waves);
            for (int cuts = 0; cuts < all; cuts++) {
                if ((cuts & ~all) == 0 && Integer.bitCount(cuts | doomed) <= fewest
                        && lostBy(cuts, waves, fewest + 1) == fewest) {
                    return cuts;
                }
            }
            return all;
        }

        /** The first place at which a row fails to prove that a set holds; -1: it proves it. */
        int firstUnproved(int set, int waves, Sheet row) {
            int place = 0;
            for (int r = 0; r < ROPES; r++) {
                if (has(set, r)) {
                    int due = loadOf(r, set, waves);
                    if (row.numberOr(place, -1) != due || due > strength[r]) {
                        return place;
                    }
                    place++;
                }
            }
            return -1;
        }
    }

    /** A law's three sums in the order in which they are worked out: each value ahead of what uses it. */
    private static final class Text {
        private boolean told;
        private final int[] code = new int[TAPE];
        private final int[] ends = new int[CLAUSES];
        private int length;

        void take(Text other) {
            told = other.told;
            length = other.length;
            System.arraycopy(other.code, 0, code, 0, TAPE);
            System.arraycopy(other.ends, 0, ends, 0, CLAUSES);
        }

        void clear() {
            told = true;
            length = 0;
        }

        void addNumber(int n) {
            if (length < TAPE) {
                code[length] = n;
                length++;
            }
        }

        /** Numbers are never below 0, so what is below it is free for tokens. */
        void addToken(int token) {
            addNumber(-1 - token);
        }

        void endClause(int clause) {
            if (within(clause, 0, CLAUSES - 1)) {
                ends[clause] = length;
            }
        }

        int startOf(int clause) {
            return within(clause, 1, CLAUSES - 1) ? ends[clause - 1] : 0;
        }

        int endOf(int clause) {
            return within(clause, 0, CLAUSES - 1) ? Math.min(ends[clause], TAPE) : 0;
        }
    }

    /** Works out what a text comes to, for the names as they stand. */
    private static final class Judge {
        private final int[] names = new int[NAMES];
        private final int[] values = new int[OPEN_VALUES];
        private int open;

        private void nameNothing() {
            for (int n = 0; n < NAMES; n++) {
                names[n] = 0;
            }
        }

        void nameRope(Town town, Net net, int rope, int waves) {
            Rope one = town.ropeAt(rope);
            nameNothing();
            names[0] = waves;
            names[1] = net.loadOf(rope, net.all, waves);
            names[2] = one.strength();
            names[3] = one.age;
            names[4] = town.kinBetween(one.one, one.two);
            namePart(town, net.partOf(one.one));
        }

        void nameRafts(Town town, int a, int b, int whole) {
            nameNothing();
            names[4] = town.kinBetween(a, b);
            namePart(town, whole);
        }

        void namePerson(Town town, int person, int whole) {
            nameNothing();
            names[4] = Integer.bitCount(town.kinOf(person) & town.personsOf(whole));
            namePart(town, whole);
            names[8] = town.personAt(person).born;
        }

        private void namePart(Town town, int whole) {
            names[5] = town.headsOf(whole);
            names[6] = town.waterOf(whole);
            names[7] = town.today;
        }

        int comesTo(Text text, int clause) {
            open = 0;
            int end = text.endOf(clause);
            for (int i = text.startOf(clause); i < end; i++) {
                int code = text.code[i];
                int token = -1 - code;
                if (code >= 0) {
                    push(code);
                } else if (token < NAMES) {
                    push(names[token]);
                } else if (token == WORD_NOT) {
                    push(pop() == 0 ? 1 : 0);
                } else {
                    int right = pop();
                    push(joined(token, pop(), right));
                }
            }
            return pop();
        }

        private void push(int value) {
            if (open < OPEN_VALUES) {
                values[open] = value;
                open++;
            }
        }

        private int pop() {
            if (open <= 0) {
                return 0;
            }
            open--;
            return values[open];
        }

        private static int joined(int token, int left, int right) {
            switch (token) {
                case WORD_OR: return left != 0 || right != 0 ? 1 : 0;
                case WORD_AND: return left != 0 && right != 0 ? 1 : 0;
                case LESS: return left < right ? 1 : 0;
                case SAME: return left == right ? 1 : 0;
                case PLUS: return left + right;
                case MINUS: return left - right;
                default: return 0;
            }
        }
    }

    /** THE TAPE, and the reader that makes a text of it. */
    private static final class Tape {
        private final int[] bytes = new int[TAPE];
        private int length;
        private final Text draft = new Text();
        private int at;
        private int token;
        private int start;
        private int number;

        boolean hasRoom(int n) {
            return length + n <= TAPE;
        }

        int append(int n, long more) {
            for (int k = 0; k < n && length < TAPE; k++) {
                bytes[length] = (int) (more >> 8 * k & 255L);
                length++;
            }
            return length;
        }

        /** Empties the tape into the draft: -1, or the place of the fault. */
        int read() {
            at = 0;
            draft.clear();
            next();
            boolean sound = readClause(WORD_TIE, TIE_CLAUSE) && readClause(WORD_CUT, CUT_CLAUSE)
                    && readClause(WORD_SPEAK, SPEAK_CLAUSE) && token == END;
            length = 0;
            return sound ? -1 : start;
        }

        // Each of these leaves the token at which it failed as the one at hand.

        private boolean readClause(int key, int clause) {
            boolean sound = pass(key) && readOr(0) && pass(STOP);
            draft.endClause(clause);
            return sound;
        }

        private boolean pass(int due) {
            if (token != due) {
                return false;
            }
            next();
            return true;
        }

        private boolean readOr(int depth) {
            boolean sound = readAnd(depth);
            for (int n = 0; n < TAPE && sound && token == WORD_OR; n++) {
                next();
                sound = readAnd(depth);
                draft.addToken(WORD_OR);
            }
            return sound;
        }

        private boolean readAnd(int depth) {
            boolean sound = readNot(depth);
            for (int n = 0; n < TAPE && sound && token == WORD_AND; n++) {
                next();
                sound = readNot(depth);
                draft.addToken(WORD_AND);
            }
            return sound;
        }

        private boolean readNot(int depth) {
            if (token != WORD_NOT) {
                return readComparison(depth);
            }
            if (depth >= DEEPEST) {
                return false;
            }
            next();
            boolean sound = readNot(depth + 1);
            draft.addToken(WORD_NOT);
            return sound;
        }

        private boolean readComparison(int depth) {
            boolean sound = readSum(depth);
            int sign = token;
            if (!sound || (sign != LESS && sign != SAME)) {
                return sound;
            }
            next();
            sound = readSum(depth);
            draft.addToken(sign);
            return sound;
        }

        private boolean readSum(int depth) {
            boolean sound = readOne(depth);
            for (int n = 0; n < TAPE && sound && (token == PLUS || token == MINUS); n++) {
                int sign = token;
                next();
                sound = readOne(depth);
                draft.addToken(sign);
            }
            return sound;
        }

        private boolean readOne(int depth) {
            if (token == NUMBER) {
                draft.addNumber(number);
                next();
                return true;
            }
            if (token < NAMES) {
                draft.addToken(token);
                next();
                return true;
            }
            if (token != OPEN || depth >= DEEPEST) {
                return false;
            }
            next();
            if (!readOr(depth + 1) || token != CLOSE) {
                return false;
            }
            next();
            return true;
        }

        // ---- tokens

        private void next() {
            while (at < length && byteAt(at) == BLANK) {
                at++;
            }
            start = at;
            int first = byteAt(at);
            if (at >= length) {
                token = END;
            } else if (isLetter(first)) {
                nextWord();
            } else if (isDigit(first)) {
                nextNumber();
            } else {
                token = signOf(first);
                at++;
            }
        }

        private int byteAt(int i) {
            return i >= 0 && i < length && i < TAPE ? bytes[i] : 0;
        }

        private void nextWord() {
            while (at < length && isLetter(byteAt(at))) {
                at++;
            }
            token = BAD;
            for (int w = 0; w < WORDS; w++) {
                if (standsHere(word(w))) {
                    token = w;
                }
            }
        }

        /** Whether the word from start on, up to where the reader is, is this one. */
        private boolean standsHere(String word) {
            if (at - start != word.length()) {
                return false;
            }
            for (int i = 0; i < word.length(); i++) {
                if (byteAt(start + i) != word.charAt(i)) {
                    return false;
                }
            }
            return true;
        }

        private void nextNumber() {
            number = 0;
            while (at < length && isDigit(byteAt(at))) {
                number = number * 10 + byteAt(at) - '0';
                at++;
            }
            token = at - start <= DIGITS ? NUMBER : BAD;
        }

        private static boolean isLetter(int b) {
            return within(b, 'a', 'z');
        }

        private static boolean isDigit(int b) {
            return within(b, '0', '9');
        }

        private static int signOf(int b) {
            switch (b) {
                case '(': return OPEN;
                case ')': return CLOSE;
                case ';': return STOP;
                case '+': return PLUS;
                case '-': return MINUS;
                case '<': return LESS;
                case '=': return SAME;
                default: return BAD;
            }
        }

        /** Names first, in the order of the judge's row; then keys. */
        private static String word(int w) {
            switch (w) {
                case 0: return "waves";
                case 1: return "load";
                case 2: return "strength";
                case 3: return "age";
                case 4: return "kin";
                case 5: return "heads";
                case 6: return "water";
                case 7: return "day";
                case 8: return "born";
                case WORD_TIE: return "tie";
                case WORD_CUT: return "cut";
                case WORD_SPEAK: return "speak";
                case WORD_OR: return "or";
                case WORD_AND: return "and";
                case WORD_NOT: return "not";
                default: return "";
            }
        }
    }

    /** A row of numbers; no bits: it is missing. */
    private static final class Sheet {
        private int bits;
        private int length;
        private final int[] row = new int[NUMBERS];

        boolean isMissing() {
            return bits == 0;
        }

        int rule(int ofBits, int n) {
            bits = ofBits;
            length = ofBits == 0 ? 0 : n;
            for (int i = 0; i < NUMBERS; i++) {
                row[i] = 0;
            }
            return length;
        }

        void write(int i, int v) {
            if (within(i, 0, NUMBERS - 1)) {
                row[i] = bits == 8 ? v & 255 : bits == 16 ? v & 65535 : v;
            }
        }

        int numberOr(int i, int without) {
            return within(i, 0, length - 1) && i < NUMBERS ? row[i] : without;
        }

        boolean hasRun(int from, int n) {
            return n >= 0 && n <= length && from >= 0 && from <= length - n;
        }
    }
}
