/** Officials who vote each session what is done; the document says what each call answers. */
public final class GooseVotes {
    public static final int NONE = -1, BAD = -2, STATE = -3, FULL = -4;
    public static final long NO = Long.MIN_VALUE;

    private static final int NOT_ANY = -5;
    private static final int NOTHING = -11, CAST = -12, PLACE = -13, SIZE = -14;
    private static final int NONE_WHERE_BELOW_ZERO = -10001;
    private static final int FAULT_FROM = -10;
    private static final int ENDED_EARLY = 100;

    private static final int OFFICIALS = 6, THINGS = 5, ROW = 4, TREATIES = 6, TAPES = 6;
    private static final int SEEN = 5, PLAN = 10, BOOK = 8;
    private static final int TEXT = 100, CLAUSES = 10, NESTED = 4;
    private static final int TAPE = 60, TRACE = 20;
    private static final int SESSIONS_AT_ONCE = 60, LAST_SESSION = 9999;

    private static final int OFFICIAL = 0, CLERK = 1, KEEPER = 2, RADICAL = 3, CHIEF = 4, NURSE = 5, TOLD = 6;
    private static final int KINDS = 7;
    private static final int[] KIND_ABOVE = {-1, OFFICIAL, OFFICIAL, OFFICIAL, CLERK, KEEPER, RADICAL};

    private static final int CLUCKS = 0, LOOKS = 1, TELLS = 2;
    private static final int BYTES = 0, SHORTS = 1, INTS = 2, BOOLEANS = 4;
    private static final int NO_TREATY = -1;
    private static final int[] FACTORIALS = {1, 1, 2, 6, 24, 120, 720};

    private final World now = new World();
    private final World imaged = new World();
    private final World trial = new World();
    private boolean hasImage;
    private final Reader reader = new Reader();
    private final Treaty noTreaty = new Treaty();
    private final Treaty[] treaties = new Treaty[TREATIES];
    private int treatyCount;
    private final Ballot ballot = new Ballot();
    private final Acts acts = new Acts();
    private final Tape[] tapes = new Tape[TAPES];

    public GooseVotes() {
        for (int i = 0; i < TREATIES; i++) {
            treaties[i] = new Treaty();
        }
        for (int i = 0; i < TAPES; i++) {
            tapes[i] = new Tape();
        }
    }

    // ---- officials, treaties, the agenda.

    public int official(int kind, int v, int votes) {
        if (!isKind(kind)) {
            return NONE;
        }
        if (!isDigit(v) || !isDigit(votes)) {
            return BAD;
        }
        if (now.count >= OFFICIALS) {
            return FULL;
        }
        now.officials[now.count].start(kind, v, votes);
        now.count++;
        return now.count - 1;
    }

    public int of(int official, int what) {
        if (!isOfficial(official)) {
            return NONE_WHERE_BELOW_ZERO;
        }
        Official one = now.officials[official];
        if (isThing(what - 10)) {
            return one.base[what - 10];
        }
        if (isThing(what - 20)) {
            return ballotOf(now).likes[official][what - 20];
        }
        switch (what) {
            case 0: return one.kind;
            case 1: return one.v;
            case 2: return one.votes;
            case 3: return one.away ? 1 : 0;
            default: return NONE_WHERE_BELOW_ZERO;
        }
    }

    public int base(int official, int thing, int n) {
        if (!isOfficial(official) || !isThing(thing)) {
            return NONE;
        }
        if (!isDigit(n)) {
            return BAD;
        }
        Official one = now.officials[official];
        int was = one.base[thing];
        one.base[thing] = n;
        return was;
    }

    public int votes(int official, int n) {
        if (!isOfficial(official)) {
            return NONE;
        }
        if (!isDigit(n)) {
            return BAD;
        }
        Official one = now.officials[official];
        int was = one.votes;
        one.votes = n;
        return was;
    }

    public int away(int official, boolean is) {
        if (!isOfficial(official)) {
            return NONE;
        }
        Official one = now.officials[official];
        boolean was = one.away;
        one.away = is;
        return was ? 1 : 0;
    }

    public int put(int thing) {
        if (thing == -1) {
            now.agendaSize = 0;
            return 0;
        }
        if (!isThing(thing)) {
            return NONE;
        }
        return now.putOnAgenda(thing) ? now.agendaSize : STATE;
    }

    public int egg(int n) {
        if (!isDigit(n)) {
            return BAD;
        }
        int was = now.egg;
        now.egg = n;
        return was;
    }

    public int row(int official, int part, int n) {
        if (!isOfficial(official) || part < 0 || part >= ROW) {
            return NONE;
        }
        if (!isDigit(n)) {
            return BAD;
        }
        Official one = now.officials[official];
        if (one.kind != TOLD) {
            return STATE;
        }
        int was = one.row[part];
        one.row[part] = n;
        return was;
    }

    public int feed(int sign) {
        if (sign < 0 || sign > 127) {
            return BAD;
        }
        return reader.append(sign) ? reader.length : FULL;
    }

    public int treaty() {
        if (treatyCount >= TREATIES) {
            return FULL;
        }
        int fault = reader.readInto(treaties[treatyCount]);
        reader.length = 0;
        if (fault != Reader.NO_FAULT) {
            return FAULT_FROM - fault;
        }
        now.treaty = treatyCount;
        treatyCount++;
        return now.treaty;
    }

    public int told(int what) {
        if (isThing(what - 10)) {
            return now.done[what - 10];
        }
        switch (what) {
            case 0: return now.session;
            case 1: return treatyOf(now).quota;
            case 2: return now.egg;
            case 3: return doneByAgendaOf(now);
            case 4: return ballotOf(now).winner();
            case 5: return ballotOf(now).rings();
            case 6: return ballotOf(now).neverDone();
            default: return NONE;
        }
    }

    public int against(int one, int other, int what) {
        if (!isThing(one) || !isThing(other) || !isZeroOrOne(what)) {
            return NONE;
        }
        if (one == other) {
            return BAD;
        }
        Ballot weighed = ballotOf(now);
        if (what == 0) {
            return weighed.votesFor(one, other, weighed.present);
        }
        return weighed.beats(one, other) ? 1 : 0;
    }

    // ---- sessions, agendas.

    public int pass(int n) {
        if (n < 0 || n > SESSIONS_AT_ONCE) {
            return BAD;
        }
        if (now.session + n > LAST_SESSION) {
            return STATE;
        }
        for (int i = 0; i < n; i++) {
            goOneSession(now);
        }
        return now.session;
    }

    public int on(int n, int what) {
        if (!isZeroOrOne(what) && !isThing(what - 10)) {
            return NONE;
        }
        if (n < 0 || n > SESSIONS_AT_ONCE) {
            return BAD;
        }
        trial.become(now);
        for (int i = 0; i < n; i++) {
            goOneSession(trial);
        }
        if (what == 0) {
            return trial.egg;
        }
        return what == 1 ? doneByAgendaOf(trial) : trial.done[what - 10];
    }

    public int agenda(int thing, int k) {
        if (!isThing(thing) || !isThing(k)) {
            return NONE;
        }
        return ballotOf(now).placeInFirstRowFor(thing, k);
    }

    public int bribe(int thing) {
        if (!isThing(thing)) {
            return NONE;
        }
        return ballotOf(now).fewestToSendAway(thing);
    }

    // ---- odds, powers; part 0 above, 1 below the line.

    public long odds(int thing, int part) {
        if (!isThing(thing) || !isZeroOrOne(part)) {
            return NO;
        }
        return fraction(ballotOf(now).rowsFor(thing), FACTORIALS[THINGS], part);
    }

    public long power(int official, int part) {
        if (!isOfficial(official) || !isZeroOrOne(part)) {
            return NO;
        }
        Ballot weighed = ballotOf(now);
        int others = Integer.bitCount(weighed.present & ~(1 << official));
        return fraction(weighed.setsTurnedBy(official), 1 << others, part);
    }

    public long pivot(int official, int part) {
        if (!isOfficial(official) || !isZeroOrOne(part)) {
            return NO;
        }
        Ballot weighed = ballotOf(now);
        int voters = Integer.bitCount(weighed.present);
        return fraction(weighed.rowsTurnedBy(official), FACTORIALS[voters], part);
    }

    public long mean(int thing, int part) {
        if (!isThing(thing) || !isZeroOrOne(part)) {
            return NO;
        }
        Ballot weighed = ballotOf(now);
        return fraction(weighed.likedByVotes(thing), weighed.votesOf(weighed.present), part);
    }

    // ---- seen.

    public int see(int official, int one, int other, boolean more) {
        if (official == -1) {
            now.seen.size = 0;
            return 0;
        }
        if (!isOfficial(official) || !isThing(one) || !isThing(other)) {
            return NONE;
        }
        if (one == other) {
            return BAD;
        }
        return now.seen.add(official, one, other, more ? 1 : 0) ? now.seen.size : FULL;
    }

    public int can(int official, int what) {
        if (!isOfficial(official) || !isZeroOrOne(what)) {
            return NONE;
        }
        trial.become(now);
        int many = 0;
        int least = NOT_ANY;
        for (int v = 9; v >= 0; v--) {
            trial.officials[official].v = v;
            if (isAsSeen(official)) {
                many++;
                least = v;
            }
        }
        return what == 0 ? many : least;
    }

    public int bases(int official, int thing, int what) {
        if (!isOfficial(official) || !isThing(thing) || !isZeroOrOne(what)) {
            return NONE;
        }
        trial.become(now);
        int many = 0;
        int least = NOT_ANY;
        for (int base = 9; base >= 0; base--) {
            trial.officials[official].base[thing] = base;
            if (isAsSeen(official)) {
                many++;
                least = base;
            }
        }
        return what == 0 ? many : least;
    }

    // ---- plans, books.

    public int plan(int what, int n) {
        if (what == -1) {
            now.plan.size = 0;
            return 0;
        }
        if (what < World.GOES_SESSION || what > World.GETS_EGG) {
            return NONE;
        }
        if ((what == World.GOES_AWAY || what == World.COMES_BACK) && !isOfficial(n)) {
            return NONE;
        }
        if (what == World.GETS_EGG && !isDigit(n)) {
            return BAD;
        }
        return now.plan.add(what, n, 0, 0) ? now.plan.size : FULL;
    }

    public int ends(int what) {
        if (!isZeroOrOne(what)) {
            return NONE;
        }
        trial.become(now);
        for (int i = 0; i < trial.plan.size; i++) {
            if (trial.plan.at(i, 0) == World.GOES_SESSION) {
                goOneSession(trial);
            } else {
                trial.follow(trial.plan.at(i, 0), trial.plan.at(i, 1));
            }
        }
        return what == 0 ? trial.egg : trial.thingsDone();
    }

    public int book(int official, int thing, int base) {
        if (official == -1) {
            now.book.size = 0;
            return 0;
        }
        if (!isOfficial(official) || !isThing(thing)) {
            return NONE;
        }
        if (!isDigit(base)) {
            return BAD;
        }
        return now.book.add(official, thing, base, 0) ? now.book.size : FULL;
    }

    public int looked() {
        for (int i = 0; i < now.book.size; i++) {
            Official one = now.officials[now.book.at(i, 0)];
            if (one.base[now.book.at(i, 1)] != now.book.at(i, 2)) {
                return i;
            }
        }
        return NOT_ANY;
    }

    // ---- judging, the image, acts, tapes.

    public int judge(int tape, int i) {
        if (!isTape(tape)) {
            return NONE;
        }
        Tape told = tapes[tape];
        if (told.holds() && told.sort != BYTES) {
            return CAST;
        }
        for (int official = 0; official < now.count; official++) {
            if (i < 0 || i >= told.size - official) {
                return ENDED_EARLY + official;
            }
            if (told.items[i + official] != now.officials[official].votes) {
                return official;
            }
        }
        return NOT_ANY;
    }

    public int image() {
        imaged.become(now);
        hasImage = true;
        return now.count;
    }

    public int undo() {
        if (!hasImage) {
            return STATE;
        }
        now.become(imaged);
        return now.count;
    }

    public int act(int official, int act, int x) {
        if (!isOfficial(official) || act < CLUCKS || act > TELLS) {
            acts.ran = 0;
            return 0;
        }
        Official one = now.officials[official];
        return acts.begin(act, official, one, x);
    }

    public int trace(int i) {
        return i >= 0 && i < acts.kept() ? acts.bodies[i] : NONE;
    }

    public int taken(int official, int k) {
        if (!isKind(k)) {
            return BAD;
        }
        if (!isOfficial(official)) {
            return NOTHING;
        }
        int kind = now.officials[official].kind;
        return isKindUnder(kind, k) ? kind : CAST;
    }

    public int count(int what) {
        switch (what) {
            case 0: return now.count;
            case 1: return treatyCount;
            case 2: return now.agendaSize;
            case 3: return now.seen.size;
            case 4: return now.plan.size;
            case 5: return now.book.size;
            case 6: return reader.length;
            case 7: return acts.ran;
            default: return BAD;
        }
    }

    public int tape(int tape, int sort, int n) {
        if (!isTape(tape)) {
            return NONE;
        }
        if (sort == Tape.HOLDS_NOTHING) {
            tapes[tape].start(sort, 0);
            return 1;
        }
        if (sort < BYTES || sort > BOOLEANS || n > TAPE) {
            return BAD;
        }
        if (n < 0) {
            return SIZE;
        }
        tapes[tape].start(sort, n);
        return 1;
    }

    public int item(int tape, int i, long v) {
        if (!isTape(tape)) {
            return NONE;
        }
        Tape told = tapes[tape];
        if (!told.holds()) {
            return NOTHING;
        }
        if (!told.hasPlace(i)) {
            return PLACE;
        }
        told.items[i] = told.cut(v);
        return 1;
    }

    public long read(int tape, int i) {
        if (!isTape(tape) || !tapes[tape].hasPlace(i)) {
            return NO;
        }
        return tapes[tape].items[i];
    }

    public int shift(int tape, int i, int other, int j, int n) {
        if (!isTape(tape) || !isTape(other)) {
            return NONE;
        }
        Tape from = tapes[tape];
        Tape to = tapes[other];
        if (!from.holds() || !to.holds()) {
            return NOTHING;
        }
        if (from.sort != to.sort) {
            return CAST;
        }
        if (!from.hasPlaces(i, n) || !to.hasPlaces(j, n)) {
            return PLACE;
        }
        System.arraycopy(from.items, i, to.items, j, n);
        return n;
    }

    // ---- what the calls share.

    private static boolean isThing(int thing) {
        return thing >= 0 && thing < THINGS;
    }

    private static boolean isKind(int kind) {
        return kind >= 0 && kind < KINDS;
    }

    private static boolean isTape(int tape) {
        return tape >= 0 && tape < TAPES;
    }

    private static boolean isDigit(int n) {
        return n >= 0 && n <= 9;
    }

    private static boolean isZeroOrOne(int n) {
        return n == 0 || n == 1;
    }

    private boolean isOfficial(int official) {
        return official >= 0 && official < now.count;
    }

    private static boolean isKindUnder(int kind, int above) {
        int at = kind;
        for (int step = 0; step < KINDS && at >= 0; step++) {
            if (at == above) {
                return true;
            }
            at = KIND_ABOVE[at];
        }
        return false;
    }

    private Treaty treatyOf(World world) {
        return world.treaty >= 0 && world.treaty < TREATIES ? treaties[world.treaty] : noTreaty;
    }

    private Ballot ballotOf(World world) {
        ballot.weigh(world, treatyOf(world));
        return ballot;
    }

    private int doneByAgendaOf(World world) {
        return ballotOf(world).doneBy(world.agenda, world.agendaSize);
    }

    private void goOneSession(World world) {
        world.endSession(doneByAgendaOf(world));
    }

    /** Whether all that is SEEN of an OFFICIAL is so in the trial world. */
    private boolean isAsSeen(int official) {
        int[] likes = ballotOf(trial).likes[official];
        Rows seen = trial.seen;
        for (int i = 0; i < seen.size; i++) {
            boolean more = likes[seen.at(i, 1)] > likes[seen.at(i, 2)];
            if (seen.at(i, 0) == official && more != (seen.at(i, 3) == 1)) {
                return false;
            }
        }
        return true;
    }

    /** A part of the fraction in lowest terms; NO, if nothing stands below the line. */
    private static long fraction(int above, int below, int part) {
        if (below <= 0) {
            return NO;
        }
        int divisor = commonDivisor(Math.abs(above), below);
        if (divisor <= 0) {
            return NO;
        }
        return part == 0 ? above / divisor : below / divisor;
    }

    private static int commonDivisor(int one, int other) {
        int a = one;
        int b = other;
        for (int step = 0; step < 64 && b != 0; step++) {
            int rest = a % b;
            a = b;
            b = rest;
        }
        return a;
    }

    /** One OFFICIAL, or a place where none is yet. */
    private static final class Official {
        int kind;
        int v;
        int votes;
        boolean away;
        final int[] base = new int[THINGS];
        final int[] row = new int[ROW];

        void start(int newKind, int newV, int newVotes) {
            kind = newKind;
            v = newV;
            votes = newVotes;
            away = false;
            for (int i = 0; i < THINGS; i++) {
                base[i] = 5;
            }
            for (int i = 0; i < ROW; i++) {
                row[i] = 0;
            }
        }

        void become(Official other) {
            kind = other.kind;
            v = other.v;
            votes = other.votes;
            away = other.away;
            System.arraycopy(other.base, 0, base, 0, THINGS);
            System.arraycopy(other.row, 0, row, 0, ROW);
        }

        int likesBySum(int sum, int thing, int egg, int session) {
            switch (kind) {
                case CLERK: return sum + vIfEven(thing);
                case KEEPER: return sum / 2;
                case RADICAL: return -sum;
                case CHIEF: return egg > v ? 0 : sum + vIfEven(thing);
                case NURSE: return sum / 2 + (thing == 0 ? egg : 0);
                case TOLD: return row[session % ROW] - sum;
                default: return sum;
            }
        }

        private int vIfEven(int thing) {
            return thing % 2 == 0 ? v : 0;
        }
    }

    /** Rows of up to four numbers told by hand. */
    private static final class Rows {
        private static final int WIDTH = 4;
        private final int most;
        private final int[] cells;
        int size;

        Rows(int most) {
            this.most = Math.max(most, 0);
            this.cells = new int[this.most * WIDTH];
        }

        boolean add(int first, int second, int third, int fourth) {
            if (size >= most) {
                return false;
            }
            cells[size * WIDTH] = first;
            cells[size * WIDTH + 1] = second;
            cells[size * WIDTH + 2] = third;
            cells[size * WIDTH + 3] = fourth;
            size++;
            return true;
        }

        int at(int row, int column) {
            return cells[row * WIDTH + column];
        }

        void become(Rows other) {
            size = other.size;
            System.arraycopy(other.cells, 0, cells, 0, size * WIDTH);
        }
    }

    /** All that THE IMAGE holds; what is only asked is tried out on a copy of it. */
    private static final class World {
        static final int GOES_SESSION = 0, GOES_AWAY = 1, COMES_BACK = 2, GETS_EGG = 3;

        final Official[] officials = new Official[OFFICIALS];
        int count;
        final int[] done = new int[THINGS];
        final int[] agenda = new int[THINGS];
        int agendaSize;
        int egg;
        int session;
        int treaty = NO_TREATY;
        final Rows seen = new Rows(SEEN);
        final Rows plan = new Rows(PLAN);
        final Rows book = new Rows(BOOK);

        World() {
            for (int i = 0; i < OFFICIALS; i++) {
                officials[i] = new Official();
            }
        }

        void become(World other) {
            for (int i = 0; i < OFFICIALS; i++) {
                officials[i].become(other.officials[i]);
            }
            count = other.count;
            System.arraycopy(other.done, 0, done, 0, THINGS);
            System.arraycopy(other.agenda, 0, agenda, 0, THINGS);
            agendaSize = other.agendaSize;
            egg = other.egg;
            session = other.session;
            treaty = other.treaty;
            seen.become(other.seen);
            plan.become(other.plan);
            book.become(other.book);
        }

        boolean putOnAgenda(int thing) {
            for (int i = 0; i < agendaSize; i++) {
                if (agenda[i] == thing) {
                    return false;
                }
            }
            if (agendaSize >= THINGS) {
                return false;
            }
            agenda[agendaSize] = thing;
            agendaSize++;
            return true;
        }

        /**
         * DONE needs no limit of its own: it is never above SESSION, which pass() keeps at 9999,
         * and what is only asked goes on beyond that.
         */
        void endSession(int thing) {
            if (isThing(thing)) {
                done[thing]++;
                egg = (thing + 3 + egg) % 10;
            }
            session++;
        }

        /** A row of the PLAN, but for a SESSION, in which THE TREATY has its say. */
        void follow(int what, int n) {
            switch (what) {
                case GOES_AWAY: officials[n].away = true; break;
                case COMES_BACK: officials[n].away = false; break;
                default: egg = n; break;
            }
        }

        int thingsDone() {
            int bits = 0;
            for (int thing = 0; thing < THINGS; thing++) {
                if (done[thing] > 0) {
                    bits |= 1 << thing;
                }
            }
            return bits;
        }
    }

    /** A TREATY as it holds: the tests of its clauses in postfix order. */
    private static final class Treaty {
        static final int NOT = -1, AND = -2, OR = -3;
        private static final int NUMBERS = 100, RELATIONS = 3;

        int quota;
        private int clauses;
        private final int[] weights = new int[CLAUSES];
        private final int[] codeEnds = new int[CLAUSES];
        private final int[] code = new int[TEXT];
        private int codeSize;

        static int testCode(int letter, int relation, int number) {
            return (letter * RELATIONS + relation) * NUMBERS + number;
        }

        void clear() {
            quota = 0;
            clauses = 0;
            codeSize = 0;
        }

        void addCode(int step) {
            if (codeSize < TEXT) {
                code[codeSize] = step;
                codeSize++;
            }
        }

        /** Ends the clause whose code was added last; a weight below 0 is loathed. */
        void endClause(int weight) {
            if (clauses < CLAUSES) {
                weights[clauses] = weight;
                codeEnds[clauses] = codeSize;
                clauses++;
            }
        }

        /** What the clauses add to BASE, by the facts of one OFFICIAL and one THING. */
        int swing(int[] facts) {
            int all = 0;
            int from = 0;
            for (int i = 0; i < clauses; i++) {
                if (isTrue(from, codeEnds[i], facts)) {
                    all += weights[i];
                }
                from = codeEnds[i];
            }
            return all;
        }

        /** The bits of one number serve as the stack, the lowest being its top: 11 are the most. */
        private boolean isTrue(int from, int to, int[] facts) {
            int stack = 0;
            for (int i = from; i < to; i++) {
                switch (code[i]) {
                    case NOT: stack ^= 1; break;
                    case AND: stack = stack >> 1 & (stack | ~1); break;
                    case OR: stack = stack >> 1 | stack & 1; break;
                    default: stack = stack << 1 | (passes(code[i], facts) ? 1 : 0); break;
                }
            }
            return (stack & 1) == 1;
        }

        private static boolean passes(int test, int[] facts) {
            int fact = facts[test / (NUMBERS * RELATIONS)];
            int number = test % NUMBERS;
            switch (test / NUMBERS % RELATIONS) {
                case 0: return fact < number;
                case 1: return fact == number;
                default: return fact > number;
            }
        }
    }

    /**
     * THE TEXT, and the way from it to a TREATY. Every step that fails leaves `at` on the byte
     * with which no TREATY goes on so: that is the FAULT.
     */
    private static final class Reader {
        static final int NO_FAULT = -1;
        private static final String LIKE = "like ", LOATHE = "loathe ", QUOTA = "quota ";
        private static final String LETTERS = "pkvxgs", RELATIONS = "<=>";
        private static final char NO_SIGN = 0;

        private final byte[] text = new byte[TEXT];
        int length;
        private int at;

        boolean append(int sign) {
            if (length >= TEXT) {
                return false;
            }
            text[length] = (byte) sign;
            length++;
            return true;
        }

        /** NO_FAULT, or the FAULT; what stands in the TREATY then does not matter. */
        int readInto(Treaty treaty) {
            treaty.clear();
            at = 0;
            for (int clause = 1; clause <= CLAUSES; clause++) {
                if (!readClause(treaty)) {
                    return at;
                }
                if (at == length) {
                    return NO_FAULT;
                }
                if (clause == CLAUSES || !skip(';')) {
                    return at;
                }
            }
            return at;
        }

        private boolean readClause(Treaty treaty) {
            if (signAt(at) == 'q') {
                return skipWord(QUOTA) && readQuota(treaty);
            }
            boolean loathes = signAt(at + 1) == 'o';
            if (!skipWord(loathes ? LOATHE : LIKE)) {
                return false;
            }
            int n = readNumber();
            if (n < 0 || !skip(' ') || !readEither(treaty, 0)) {
                return false;
            }
            treaty.endClause(loathes ? -n : n);
            return true;
        }

        private boolean readQuota(Treaty treaty) {
            int n = readNumber();
            treaty.quota = n;
            return n >= 0;
        }

        /** E, with T in its loop: its tests are joined from the left on, which comes to the same. */
        private boolean readEither(Treaty treaty, int depth) {
            for (int part = 0; part <= TEXT; part++) {
                if (!readSingle(treaty, depth)) {
                    return false;
                }
                for (int more = 0; more < TEXT && skip('&'); more++) {
                    if (!readSingle(treaty, depth)) {
                        return false;
                    }
                    treaty.addCode(Treaty.AND);
                }
                if (part > 0) {
                    treaty.addCode(Treaty.OR);
                }
                if (!skip('|')) {
                    return true;
                }
            }
            return false;
        }

        private boolean readSingle(Treaty treaty, int depth) {
            char sign = signAt(at);
            if (sign != '!' && sign != '(') {
                return readTest(treaty);
            }
            if (depth >= NESTED) {
                return false;
            }
            at++;
            if (sign == '(') {
                return readEither(treaty, depth + 1) && skip(')');
            }
            if (!readSingle(treaty, depth + 1)) {
                return false;
            }
            treaty.addCode(Treaty.NOT);
            return true;
        }

        private boolean readTest(Treaty treaty) {
            int letter = LETTERS.indexOf(signAt(at));
            if (letter < 0) {
                return false;
            }
            at++;
            int relation = RELATIONS.indexOf(signAt(at));
            if (relation < 0) {
                return false;
            }
            at++;
            int number = readNumber();
            if (number < 0) {
                return false;
            }
            treaty.addCode(Treaty.testCode(letter, relation, number));
            return true;
        }

        /** One or two digits as a number; -1, if there are none. */
        private int readNumber() {
            int n = -1;
            for (int digits = 0; digits < 2; digits++) {
                char sign = signAt(at);
                if (sign < '0' || sign > '9') {
                    return n;
                }
                n = 10 * Math.max(n, 0) + sign - '0';
                at++;
            }
            return n;
        }

        private boolean skipWord(String word) {
            for (int i = 0; i < word.length(); i++) {
                if (!skip(word.charAt(i))) {
                    return false;
                }
            }
            return true;
        }

        private boolean skip(char sign) {
            if (signAt(at) != sign) {
                return false;
            }
            at++;
            return true;
        }

        /** No part of a TREATY is NO_SIGN, so that beyond the end nothing goes on. */
        private char signAt(int place) {
            return place >= 0 && place < length ? (char) text[place] : NO_SIGN;
        }
    }

    /** One world's session, weighed once: what each OFFICIAL likes, and what BEATS what. */
    private static final class Ballot {
        private static final int P = 0, K = 1, V = 2, X = 3, G = 4, S = 5, FACTS = 6;

        final int[][] likes = new int[OFFICIALS][THINGS];
        int present;
        private int count;
        private int quota;
        private final int[] votes = new int[OFFICIALS];
        private final int[] beatenBy = new int[THINGS];
        private final int[] facts = new int[FACTS];
        private final int[] order = new int[THINGS];

        void weigh(World world, Treaty treaty) {
            count = world.count;
            quota = treaty.quota;
            present = 0;
            facts[G] = world.egg;
            facts[S] = world.session % 10;
            for (int i = 0; i < count; i++) {
                Official one = world.officials[i];
                votes[i] = one.votes;
                if (!one.away) {
                    present |= 1 << i;
                }
                facts[P] = i;
                facts[K] = one.kind;
                facts[V] = one.v;
                for (int thing = 0; thing < THINGS; thing++) {
                    facts[X] = thing;
                    int sum = one.base[thing] + treaty.swing(facts);
                    likes[i][thing] = one.likesBySum(sum, thing, world.egg, world.session);
                }
            }
            weighThings();
        }

        private void weighThings() {
            for (int one = 0; one < THINGS; one++) {
                beatenBy[one] = 0;
                for (int other = 0; other < THINGS; other++) {
                    if (leads(one, other, present)) {
                        beatenBy[one] |= 1 << other;
                    }
                }
            }
        }

        boolean beats(int one, int other) {
            return (beatenBy[one] >> other & 1) == 1;
        }

        int votesFor(int one, int other, int voters) {
            int all = 0;
            for (int i = 0; i < count; i++) {
                if ((voters >> i & 1) == 1 && likes[i][one] > likes[i][other]) {
                    all += votes[i];
                }
            }
            return all;
        }

        /** Whether the one BEATS the other, if just these vote. */
        private boolean leads(int one, int other, int voters) {
            return votesFor(one, other, voters) - votesFor(other, one, voters) > quota;
        }

        private boolean leadsAll(int thing, int voters) {
            for (int other = 0; other < THINGS; other++) {
                if (other != thing && !leads(thing, other, voters)) {
                    return false;
                }
            }
            return true;
        }

        int winner() {
            for (int thing = 0; thing < THINGS; thing++) {
                if (leadsAll(thing, present)) {
                    return thing;
                }
            }
            return NOT_ANY;
        }

        int rings() {
            int all = 0;
            for (int a = 0; a < THINGS; a++) {
                for (int b = a + 1; b < THINGS; b++) {
                    for (int c = b + 1; c < THINGS; c++) {
                        if (isRing(a, b, c) || isRing(a, c, b)) {
                            all++;
                        }
                    }
                }
            }
            return all;
        }

        private boolean isRing(int a, int b, int c) {
            return beats(a, b) && beats(b, c) && beats(c, a);
        }

        int doneBy(int[] agenda, int size) {
            if (size < 1) {
                return NOT_ANY;
            }
            int holds = agenda[0];
            for (int i = 1; i < size; i++) {
                if (beats(agenda[i], holds)) {
                    holds = agenda[i];
                }
            }
            return holds;
        }

        int rowsFor(int thing) {
            int rows = 0;
            for (int row = 0; row < FACTORIALS[THINGS]; row++) {
                layRow(row);
                if (doneBy(order, THINGS) == thing) {
                    rows++;
                }
            }
            return rows;
        }

        int neverDone() {
            int bits = 0;
            for (int thing = 0; thing < THINGS; thing++) {
                if (rowsFor(thing) == 0) {
                    bits |= 1 << thing;
                }
            }
            return bits;
        }

        int placeInFirstRowFor(int thing, int k) {
            for (int row = 0; row < FACTORIALS[THINGS]; row++) {
                layRow(row);
                if (doneBy(order, THINGS) == thing) {
                    return order[k];
                }
            }
            return NOT_ANY;
        }

        /** The rows of all five have the numbers 0 .. 119 in their order as rows of numbers. */
        private void layRow(int number) {
            int left = (1 << THINGS) - 1;
            int rest = number;
            for (int i = 0; i < THINGS; i++) {
                int ways = FACTORIALS[THINGS - 1 - i];
                order[i] = bitBehind(left, rest / ways);
                left &= ~(1 << order[i]);
                rest %= ways;
            }
        }

        /** The place of the lowest bit that has as many others below it. */
        private static int bitBehind(int bits, int others) {
            int below = others;
            for (int bit = 0; bit < THINGS; bit++) {
                if ((bits >> bit & 1) == 1) {
                    if (below == 0) {
                        return bit;
                    }
                    below--;
                }
            }
            return 0;
        }

        /** Sets are tried from the least on, so that of several as small the least is kept. */
        int fewestToSendAway(int thing) {
            int best = NOT_ANY;
            int fewest = OFFICIALS + 1;
            for (int set = 0; set < 1 << count; set++) {
                int size = Integer.bitCount(set);
                if (size < fewest && leadsAll(thing, present & ~set)) {
                    best = set;
                    fewest = size;
                }
            }
            return best;
        }

        int votesOf(int set) {
            int all = 0;
            for (int i = 0; i < count; i++) {
                if ((set >> i & 1) == 1) {
                    all += votes[i];
                }
            }
            return all;
        }

        private boolean isMost(int set) {
            return 2 * votesOf(set) > votesOf(present);
        }

        /** Whether an OFFICIAL makes a set of others that are not AWAY have more than the half. */
        private boolean turns(int official, int set) {
            int own = 1 << official;
            boolean apart = (present & own) != 0 && (set & own) == 0 && (set & ~present) == 0;
            return apart && !isMost(set) && isMost(set | own);
        }

        int setsTurnedBy(int official) {
            int sets = 0;
            for (int set = 0; set < 1 << count; set++) {
                if (turns(official, set)) {
                    sets++;
                }
            }
            return sets;
        }

        /** A set ahead stands in as many rows as it and those behind can be laid, each by itself. */
        int rowsTurnedBy(int official) {
            int voters = Integer.bitCount(present);
            int rows = 0;
            for (int set = 0; set < 1 << count; set++) {
                if (turns(official, set)) {
                    int ahead = Integer.bitCount(set);
                    rows += FACTORIALS[ahead] * FACTORIALS[voters - 1 - ahead];
                }
            }
            return rows;
        }

        int likedByVotes(int thing) {
            int all = 0;
            for (int i = 0; i < count; i++) {
                if ((present >> i & 1) == 1) {
                    all += votes[i] * likes[i][thing];
                }
            }
            return all;
        }
    }

    /** The bodies of the ACTS, and THE TRACE that they leave. */
    private static final class Acts {
        private static final int DEEPEST = 20, ACTS = 3;
        /** By KIND and act: the body of the KIND, or of the next one above that has one. */
        private static final int[] BODY = {
            10, 11, 12,
            10, 20, 12,
            30, 11, 12,
            10, 11, 40,
            50, 51, 12,
            30, 11, 60,
            71, 70, 40,
        };

        final int[] bodies = new int[TRACE];
        int ran;
        private int own;
        private int v;
        private int number;

        int begin(int act, int official, Official one, int x) {
            own = one.kind;
            v = one.v;
            number = official;
            ran = 0;
            return run(act, own, x, 0);
        }

        int kept() {
            return Math.min(ran, TRACE);
        }

        /** Runs an act as from a KIND on: the OFFICIAL's own, or, for super, the one above a body's. */
        private int run(int act, int kind, int x, int depth) {
            if (depth > DEEPEST || !isKind(kind)) {
                return 0;
            }
            int body = BODY[kind * ACTS + act];
            note(body);
            int next = depth + 1;
            switch (body) {
                case 10: return x + number;
                case 11: return run(CLUCKS, own, x, next) - v;
                case 12: return run(LOOKS, own, x, next) * 2;
                case 20: return run(LOOKS, OFFICIAL, x, next) ^ 6;
                case 30: return run(CLUCKS, OFFICIAL, x * 3, next);
                case 40: return run(TELLS, OFFICIAL, x, next) + run(LOOKS, own, 1, next);
                case 50: return -run(CLUCKS, CLERK, x, next);
                case 51: return run(LOOKS, CLERK, x + 1, next);
                case 60: return run(TELLS, KEEPER, x - number, next);
                case 70: return run(LOOKS, RADICAL, x, next) + run(CLUCKS, RADICAL, 2, next);
                case 71: return run(CLUCKS, RADICAL, x, next) ^ v;
                default: return 0;
            }
        }

        private void note(int body) {
            if (ran < TRACE) {
                bodies[ran] = body;
            }
            ran++;
        }
    }

    /** A row of items, each kept as a long that is cut to its sort; or nothing. */
    private static final class Tape {
        static final int HOLDS_NOTHING = -1;

        int sort = HOLDS_NOTHING;
        int size;
        final long[] items = new long[TAPE];

        void start(int newSort, int newSize) {
            sort = newSort;
            size = newSize;
            for (int i = 0; i < TAPE; i++) {
                items[i] = 0;
            }
        }

        boolean holds() {
            return sort != HOLDS_NOTHING;
        }

        boolean hasPlace(int place) {
            return place >= 0 && place < size;
        }

        boolean hasPlaces(int from, int many) {
            return from >= 0 && many >= 0 && from <= size && many <= size - from;
        }

        long cut(long v) {
            switch (sort) {
                case BYTES: return (byte) v;
                case SHORTS: return (short) v;
                case INTS: return (int) v;
                case BOOLEANS: return v != 0 ? 1 : 0;
                default: return v;
            }
        }
    }
}
