/**
 * The refusals that each promise names, each one on a new object: one below and one above its bounds, far off, and
 * where several would fit the first that the call's words name. Behind each nothing is otherwise.
 */
public final class RefusalsTest {
    private static final int NONE = Check.NONE, BAD = Check.BAD, STATE = Check.STATE, FULL = Check.FULL;
    private static final int NONE_LOW = Check.NONE_LOW, NOTHING = Check.NOTHING, CAST = Check.CAST;
    private static final int PLACE = Check.PLACE, SIZE = Check.SIZE;
    private static final long NO = Check.NO;
    private static final int MOST = Integer.MAX_VALUE, LEAST = Integer.MIN_VALUE;
    /** some() has OFFICIALS 0 .. 3, full() has 0 .. 5. */
    private static final int[] NO_OFFICIALS = {-1, 4, 5, 6, MOST, LEAST};
    private static final int[] NO_OFFICIALS_OF_SIX = {-1, 6, MOST, LEAST};
    private static final int[] NO_THINGS = {-1, 5, MOST, LEAST};
    private static final int[] NO_DIGITS = {-1, 10, MOST, LEAST};
    private static final int[] NO_BITS = {-1, 2, MOST, LEAST};

    public static void main(String[] args) {
        official();
        of();
        base();
        votes();
        away();
        put();
        egg();
        row();
        feed();
        treaty();
        told();
        against();
        pass();
        on();
        agenda();
        bribe();
        parts("18: NO: thing, part", "odds", NO_THINGS);
        parts("19: NO: official, part", "power", NO_OFFICIALS);
        parts("20: NO: official, part", "pivot", NO_OFFICIALS);
        parts("21: NO: thing, part", "mean", NO_THINGS);
        mean();
        see();
        can();
        bases();
        plan();
        ends();
        book();
        judge();
        undo();
        act();
        trace();
        taken();
        count();
        tape();
        item();
        read();
        shift();
        Check.end("RefusalsTest");
    }

    private static Same some(String sentence) {
        return new Same(sentence, Sample::some);
    }

    private static Same full(String sentence) {
        return new Same(sentence + ", full", Sample::full);
    }

    private static void official() {
        String is = "2: NONE: kind; BAD: v, votes; FULL: 6";
        for (Same off : new Same[] {some(is), full(is)}) {
            for (int kind : new int[] {-1, 7, MOST, LEAST}) {
                off.due(NONE, "official", kind, 0, 0);
                off.due(NONE, "official", kind, 10, 0);
                off.due(NONE, "official", kind, 0, -1);
            }
            for (int n : NO_DIGITS) {
                off.due(BAD, "official", 0, n, 0);
                off.due(BAD, "official", 6, 0, n);
                off.due(BAD, "official", 6, n, n);
            }
        }
        for (int kind = 0; kind <= 6; kind++) {
            full(is).due(FULL, "official", kind, 9, 9);
        }
    }

    private static void of() {
        String is = "3: -10001: NONE";
        for (int official : NO_OFFICIALS) {
            some(is).due(NONE_LOW, "of", official, 0);
            some(is).due(NONE_LOW, "of", official, 10);
            some(is).due(NONE_LOW, "of", official, 24);
        }
        for (int official : NO_OFFICIALS_OF_SIX) {
            full(is).due(NONE_LOW, "of", official, 0);
        }
        for (int what : new int[] {-1, 4, 9, 15, 19, 25, MOST, LEAST}) {
            some(is).due(NONE_LOW, "of", 0, what);
            some(is).due(NONE_LOW, "of", 4, what);
        }
    }

    private static void base() {
        String is = "4: NONE; BAD";
        for (int n : new int[] {5, -1, 10}) {
            for (int official : NO_OFFICIALS) {
                some(is).due(NONE, "base", official, 0, n);
            }
            for (int thing : NO_THINGS) {
                some(is).due(NONE, "base", 0, thing, n);
            }
        }
        for (int official : NO_OFFICIALS_OF_SIX) {
            full(is).due(NONE, "base", official, 0, 5);
        }
        for (int n : NO_DIGITS) {
            some(is).due(BAD, "base", 0, 0, n);
            some(is).due(BAD, "base", 3, 4, n);
        }
    }

    private static void votes() {
        String is = "5: NONE; BAD";
        for (int official : NO_OFFICIALS) {
            some(is).due(NONE, "votes", official, 5);
            some(is).due(NONE, "votes", official, -1);
            some(is).due(NONE, "votes", official, 10);
        }
        for (int official : NO_OFFICIALS_OF_SIX) {
            full(is).due(NONE, "votes", official, 5);
        }
        for (int n : NO_DIGITS) {
            some(is).due(BAD, "votes", 0, n);
            some(is).due(BAD, "votes", 3, n);
        }
    }

    private static void away() {
        String is = "6: NONE";
        for (int official : NO_OFFICIALS) {
            some(is).due(NONE, "away", official, true);
            some(is).due(NONE, "away", official, false);
        }
        for (int official : NO_OFFICIALS_OF_SIX) {
            full(is).due(NONE, "away", official, true);
        }
    }

    private static void put() {
        String is = "7: NONE; STATE: it is on it";
        for (int thing : new int[] {-2, 5, MOST, LEAST}) {
            some(is).due(NONE, "put", thing);
            full(is).due(NONE, "put", thing);
        }
        for (int thing : new int[] {0, 3, 4}) {
            some(is).due(STATE, "put", thing);
        }
        for (int thing = 0; thing < 5; thing++) {
            full(is).due(STATE, "put", thing);
        }
        putKeepsTheOrder(is);
    }

    /** By these VOTES each THING but 4 BEATS the one ahead of it on THE AGENDA 4, 0, 1, and 4 BEATS 1. */
    private static void putKeepsTheOrder(String is) {
        GooseVotes x = Check.withVotes(0, 1, 1, 1);
        Check.bases(x, 0, 8, 9, 0, 0, 7);
        Check.bases(x, 1, 9, 7, 0, 0, 8);
        Check.bases(x, 2, 7, 8, 0, 0, 9);
        Check.due(is + ": 0 BEATS 4", 1, x.against(0, 4, 1));
        Check.due(is + ": 1 BEATS 0", 1, x.against(1, 0, 1));
        Check.due(is + ": 4 BEATS 1", 1, x.against(4, 1, 1));
        for (int thing : new int[] {4, 0, 1}) {
            x.put(thing);
        }
        Check.due(is + ": the last holds", 1, x.told(3));
        for (int thing : new int[] {4, 0, 1}) {
            Check.due(is + ": on it", STATE, x.put(thing));
            Check.due(is + ": the last holds still", 1, x.told(3));
        }
    }

    private static void egg() {
        for (int n : NO_DIGITS) {
            some("8: BAD").due(BAD, "egg", n);
            full("8: BAD").due(BAD, "egg", n);
        }
    }

    private static void row() {
        String is = "9: NONE: official, part; BAD; STATE: another KIND";
        for (int n : new int[] {0, -1, 10}) {
            for (int official : NO_OFFICIALS) {
                some(is).due(NONE, "row", official, 0, n);
                some(is).due(NONE, "row", official, 4, n);
            }
            for (int part : new int[] {-1, 4, MOST, LEAST}) {
                some(is).due(NONE, "row", 0, part, n);
                some(is).due(NONE, "row", 1, part, n);
            }
        }
        for (int n : NO_DIGITS) {
            some(is).due(BAD, "row", 0, 0, n);
            some(is).due(BAD, "row", 0, 3, n);
            some(is).due(BAD, "row", 1, 0, n);
        }
        for (int official = 1; official <= 5; official++) {
            full(is).due(STATE, "row", official, 0, 0);
            full(is).due(STATE, "row", official, 3, 9);
        }
        Same radical = new Same(is + ", a RADICAL", () -> Check.withVotes(3, 1));
        radical.due(STATE, "row", 0, 0, 5);
    }

    private static void feed() {
        String is = "10: A sign (0 .. 127); BAD; FULL";
        for (int sign : new int[] {-1, 128, 256 + 'q', MOST, LEAST}) {
            some(is).due(BAD, "feed", sign);
            full(is).due(BAD, "feed", sign);
        }
        for (int sign : new int[] {0, ';', 127}) {
            full(is).due(FULL, "feed", sign);
        }
        GooseVotes x = new GooseVotes();
        Check.due(is + ": the least", 1, x.feed(0));
        Check.due(is + ": the most", 2, x.feed(127));
        for (int n = 3; n <= 99; n++) {
            x.feed('q');
        }
        Check.due(is + ": the hundredth", 100, x.feed('q'));
        Check.due(is + ": one more", FULL, x.feed('q'));
    }

    private static void treaty() {
        full("11: FULL: there are 6 (THE TEXT stays)").due(FULL, "treaty");
        GooseVotes x = Sample.full();
        Check.due("11: FULL: there are 6 (THE TEXT stays)", FULL, x.treaty());
        Check.due("11: all of it stays", 100, x.count(6));
        Check.due("11: the sixth holds", 4, x.told(1));
        GooseVotes empty = new GooseVotes();
        Check.due("11: -10 less the FAULT, of an empty TEXT", -10, empty.treaty());
        for (int i = 0; i < 6; i++) {
            Check.due("11: its number", i, Check.treaty(empty, "quota 5"));
        }
        Check.due("11: FULL: there are 6, ahead of the FAULT of an empty TEXT", FULL, empty.treaty());
        treatyWithAFault();
    }

    private static void treatyWithAFault() {
        String is = "11: -10 less the FAULT (the one that held holds)";
        GooseVotes x = Check.withVotes(0, 1);
        Check.due(is, 0, Check.treaty(x, "like 7 x=4;quota 3"));
        String[] faulty = {"", "quota 9;", "like 1 x=4&", "like 1 x=4;quota 8;like 1 x=3;q"};
        for (String text : faulty) {
            Check.due(is + ": \"" + text + "\"", -10 - text.length(), Check.treaty(x, text));
            Check.due(is + ": THE TEXT is empty", 0, x.count(6));
            Check.due(is + ": QUOTA", 3, x.told(1));
            Check.due(is + ": its like", 12, x.of(0, 24));
            Check.due(is + ": no like", 5, x.of(0, 23));
            Check.due(is + ": no more TREATIES", 1, x.count(1));
        }
        Check.due(is + ": the next number", 1, Check.treaty(x, "quota 6"));
        Check.due(is + ": the next QUOTA", 6, x.told(1));
        Check.due(is + ": no like", 5, x.of(0, 24));
    }

    private static void told() {
        for (int what : new int[] {-1, 7, 9, 15, MOST, LEAST}) {
            some("12: NONE").due(NONE, "told", what);
        }
    }

    private static void against() {
        String is = "13: NONE; BAD: one is both";
        for (int thing : NO_THINGS) {
            some(is).due(NONE, "against", thing, 0, 0);
            some(is).due(NONE, "against", 0, thing, 1);
            some(is).due(NONE, "against", thing, thing, 0);
        }
        for (int what : NO_BITS) {
            some(is).due(NONE, "against", 0, 1, what);
            some(is).due(NONE, "against", 2, 2, what);
        }
        for (int thing = 0; thing < 5; thing++) {
            some(is).due(BAD, "against", thing, thing, 0);
            some(is).due(BAD, "against", thing, thing, 1);
        }
    }

    private static GooseVotes atSession(int session) {
        GooseVotes x = new GooseVotes();
        x.put(4);
        for (int left = session; left > 0; left -= 60) {
            x.pass(Math.min(60, left));
        }
        return x;
    }

    private static void pass() {
        String is = "14: n SESSIONS (0 .. 60); BAD; STATE: it would be above 9999";
        for (int n : new int[] {-1, 61, MOST, LEAST}) {
            some(is).due(BAD, "pass", n);
        }
        some(is).due(3, "pass", 0);
        GooseVotes x = atSession(9940);
        Check.due(is + ": one above", STATE, x.pass(60));
        Check.due(is + ": BAD ahead of STATE", BAD, x.pass(61));
        Check.due(is + ": nothing changed", 9940, x.told(0));
        Check.due(is + ": nothing changed, DONE", 9940, x.told(14));
        Check.due(is + ": nothing changed, EGG", 9940 % 10 * 7 % 10, x.told(2));
        Check.due(is + ": none goes", 9940, x.pass(0));
        Check.due(is + ": to the last", 9999, x.pass(59));
        Check.due(is + ": EGG", 9 * 7 % 10, x.told(2));
        Check.due(is + ": one above", STATE, x.pass(1));
        Check.due(is + ": far above", STATE, x.pass(60));
        Check.due(is + ": BAD ahead of STATE", BAD, x.pass(-1));
        Check.due(is + ": none goes", 9999, x.pass(0));
        Check.due(is + ": nothing changed", 9999, x.told(0));
        Check.due(is + ": nothing changed, DONE", 9999, x.told(14));
        Check.due(is + ": sixty to the last", 9999, atSession(9939).pass(60));
    }

    private static void on() {
        String is = "15: NONE; BAD: n";
        for (int what : new int[] {-1, 2, 9, 15, MOST, LEAST}) {
            some(is).due(NONE, "on", 1, what);
            some(is).due(NONE, "on", -1, what);
            some(is).due(NONE, "on", 61, what);
        }
        for (int n : new int[] {-1, 61, MOST, LEAST}) {
            for (int what : new int[] {0, 1, 10, 14}) {
                some(is).due(BAD, "on", n, what);
            }
        }
    }

    private static void agenda() {
        String is = "16: the k-th (0 .. 4); NONE";
        for (int n : NO_THINGS) {
            some(is).due(NONE, "agenda", n, 0);
            some(is).due(NONE, "agenda", 0, n);
            some(is).due(NONE, "agenda", n, n);
        }
    }

    private static void bribe() {
        for (int thing : NO_THINGS) {
            some("17: NONE").due(NONE, "bribe", thing);
        }
    }

    private static void parts(String is, String name, int[] none) {
        for (int n : none) {
            some(is).due(NO, name, n, 0);
            some(is).due(NO, name, n, 1);
            some(is).due(NO, name, n, 2);
        }
        for (int part : NO_BITS) {
            some(is).due(NO, name, 0, part);
        }
    }

    private static void mean() {
        String is = "21: NO: as told";
        Same none = new Same(is, () -> Check.withVotes(0, 0, 0));
        none.due(NO, "mean", 0, 0);
        none.due(NO, "mean", 4, 1);
    }

    private static void see() {
        String is = "22: NONE: official, things; BAD: one is both; FULL: 5";
        for (int official : new int[] {-2, 4, 6, MOST, LEAST}) {
            some(is).due(NONE, "see", official, 0, 1, true);
            some(is).due(NONE, "see", official, 1, 1, true);
        }
        for (Same off : new Same[] {some(is), full(is)}) {
            off.due(NONE, "see", 6, 0, 1, false);
            off.due(NONE, "see", -2, 0, 0, false);
            for (int thing : NO_THINGS) {
                off.due(NONE, "see", 0, thing, 1, true);
                off.due(NONE, "see", 0, 1, thing, true);
                off.due(NONE, "see", 0, thing, thing, true);
            }
            for (int thing = 0; thing < 5; thing++) {
                off.due(BAD, "see", 0, thing, thing, true);
            }
        }
        full(is).due(FULL, "see", 0, 0, 1, true);
        full(is).due(FULL, "see", 5, 4, 3, false);
        seeNone();
    }

    private static void seeNone() {
        String is = "22: official -1: none then, 0, whatever the others are";
        GooseVotes x = Sample.full();
        Check.due(is, 0, x.see(-1, LEAST, MOST, true));
        Check.due(is + ": none", 0, x.count(3));
        Check.due(is + ": none already", 0, x.see(-1, 2, 2, false));
        Check.due(is + ": anew", 1, x.see(0, 0, 1, true));
        Check.due(is + ": one is both", 0, x.see(-1, 2, 2, false));
        Check.due(is + ": none", 0, x.count(3));
    }

    private static void can() {
        String is = "23: NONE";
        for (int official : NO_OFFICIALS) {
            some(is).due(NONE, "can", official, 0);
            some(is).due(NONE, "can", official, 2);
        }
        for (int what : NO_BITS) {
            some(is).due(NONE, "can", 0, what);
        }
    }

    private static void bases() {
        String is = "24: NONE";
        for (int official : NO_OFFICIALS) {
            some(is).due(NONE, "bases", official, 0, 0);
        }
        for (int thing : NO_THINGS) {
            some(is).due(NONE, "bases", 0, thing, 1);
        }
        for (int what : NO_BITS) {
            some(is).due(NONE, "bases", 0, 0, what);
            some(is).due(NONE, "bases", -1, 5, what);
        }
    }

    private static void plan() {
        String is = "25: NONE: what (0 .. 3), official (by 1, 2); BAD: EGG (by 3); FULL: 10";
        for (Same off : new Same[] {some(is), full(is)}) {
            for (int what : new int[] {-2, 4, MOST, LEAST}) {
                off.due(NONE, "plan", what, 0);
                off.due(NONE, "plan", what, 10);
            }
            for (int official : NO_OFFICIALS_OF_SIX) {
                off.due(NONE, "plan", 1, official);
                off.due(NONE, "plan", 2, official);
            }
            for (int egg : NO_DIGITS) {
                off.due(BAD, "plan", 3, egg);
            }
        }
        some(is).due(NONE, "plan", 1, 4);
        some(is).due(NONE, "plan", 2, 4);
        full(is).due(FULL, "plan", 0, LEAST);
        full(is).due(FULL, "plan", 1, 0);
        full(is).due(FULL, "plan", 2, 5);
        full(is).due(FULL, "plan", 3, 0);
        planTaken();
    }

    private static void planTaken() {
        String empty = "25: what -1: it is empty then, 0, whatever the other is";
        GooseVotes x = Sample.full();
        Check.due(empty, 0, x.plan(-1, LEAST));
        Check.due(empty + ": none", 0, x.count(4));
        Check.due(empty + ": empty already", 0, x.plan(-1, MOST));
        String is = "25: by 0 n does not matter";
        Check.due(is, 1, x.plan(0, LEAST));
        Check.due(is, 2, x.plan(0, MOST));
        Check.due(is + ": no such official", 3, x.plan(0, 6));
        x.put(-1);
        x.put(3);
        Check.due(is + ": SESSIONS go", 8, x.ends(1));
        Check.due("25: official (by 1, 2): the first", 4, x.plan(1, 0));
        Check.due("25: official (by 1, 2): the last", 5, x.plan(2, 5));
        Check.due("25: EGG (by 3): the least", 6, x.plan(3, 0));
        Check.due("25: EGG (by 3): the most", 7, x.plan(3, 9));
        Check.due("25: EGG (by 3): it is that", 9, x.ends(0));
    }

    private static void ends() {
        for (int what : NO_BITS) {
            some("26: NONE").due(NONE, "ends", what);
        }
    }

    private static void book() {
        String is = "27: NONE; BAD: base; FULL: 8";
        for (int official : new int[] {-2, 4, 6, MOST, LEAST}) {
            some(is).due(NONE, "book", official, 0, 5);
            some(is).due(NONE, "book", official, 0, 10);
        }
        for (Same off : new Same[] {some(is), full(is)}) {
            off.due(NONE, "book", 6, 0, 5);
            off.due(NONE, "book", -2, 0, 5);
            for (int thing : NO_THINGS) {
                off.due(NONE, "book", 0, thing, 5);
                off.due(NONE, "book", 0, thing, -1);
            }
            for (int base : NO_DIGITS) {
                off.due(BAD, "book", 0, 0, base);
            }
        }
        full(is).due(FULL, "book", 0, 0, 0);
        full(is).due(FULL, "book", 5, 4, 9);
        bookEmpty();
    }

    private static void bookEmpty() {
        String is = "27: official -1: it is empty then, 0, whatever the others are";
        GooseVotes x = Sample.full();
        x.base(1, 4, 0);
        Check.due(is + ": not yet", 0, x.looked());
        Check.due(is, 0, x.book(-1, MOST, LEAST));
        Check.due(is + ": none", 0, x.count(5));
        Check.due(is + ": none is otherwise", -5, x.looked());
        Check.due(is + ": empty already", 0, x.book(-1, 0, 0));
        Check.due("27: BASE 0", 1, x.book(5, 4, 0));
        Check.due("27: BASE 9", 2, x.book(0, 0, 9));
        Check.due("28: the first", 0, x.looked());
    }

    private static void judge() {
        String is = "29: NONE: tape; CAST: it is no row of bytes";
        for (int tape : new int[] {-1, 6, MOST, LEAST}) {
            some(is).due(NONE, "judge", tape, 0);
        }
        for (int tape = 1; tape <= 4; tape++) {
            some(is).due(CAST, "judge", tape, 0);
            some(is).due(CAST, "judge", tape, -1);
            some(is).due(CAST, "judge", tape, 60);
        }
        some(is).due(100, "judge", 5, 0);
    }

    private static void undo() {
        Same none = new Same("31: STATE: there is none", RefusalsTest::withoutImage);
        none.due(STATE, "undo");
        GooseVotes x = new GooseVotes();
        Check.due("30: THE IMAGE of a new object", 0, x.image());
        x.official(0, 0, 0);
        x.put(0);
        Check.due("31: there is one, of none", 0, x.undo());
        Check.due("31: no OFFICIALS", 0, x.count(0));
        Check.due("31: an empty AGENDA", 0, x.count(2));
        Check.due("31: there is one still", 0, x.undo());
    }

    private static GooseVotes withoutImage() {
        GooseVotes x = Check.withVotes(6, 3, 2);
        x.row(0, 0, 4);
        x.put(2);
        x.pass(3);
        x.see(0, 1, 2, true);
        x.plan(3, 2);
        x.book(1, 1, 4);
        return x;
    }

    private static void act() {
        String is = "32: 0, and no TRACE then: no such OFFICIAL, act";
        int[][] none = {{-1, 0}, {4, 0}, {MOST, 1}, {LEAST, 2}, {0, -1}, {0, 3}, {3, MOST}, {3, LEAST}, {4, 3}};
        for (int[] with : none) {
            GooseVotes x = Sample.some();
            Check.due(is + ": a TRACE", 70, x.trace(0));
            Check.due(is + ": " + with[0] + ", " + with[1], 0, x.act(with[0], with[1], 5));
            Check.due(is + ": no TRACE", NONE, x.trace(0));
            Check.due(is + ": none ran", 0, x.count(7));
            Check.due(is + ": another runs", 6, x.act(1, 0, 5));
            Check.due(is + ": its TRACE", 10, x.trace(0));
            Check.due(is + ": no more of the one before", NONE, x.trace(1));
        }
    }

    private static void trace() {
        for (int i : new int[] {-1, 5, 6, 19, 20, MOST, LEAST}) {
            some("33: NONE").due(NONE, "trace", i);
        }
        some("33: the last one that ran").due(10, "trace", 4);
        for (int i : new int[] {-1, 0, 1}) {
            full("33: NONE, no act() yet").due(NONE, "trace", i);
        }
    }

    private static void taken() {
        String is = "34: BAD: k; NOTHING: no such OFFICIAL; CAST";
        for (int k : new int[] {-1, 7, MOST, LEAST}) {
            some(is).due(BAD, "taken", 0, k);
            some(is).due(BAD, "taken", 4, k);
            some(is).due(BAD, "taken", -1, k);
        }
        for (int official : NO_OFFICIALS) {
            some(is).due(NOTHING, "taken", official, 0);
            some(is).due(NOTHING, "taken", official, 6);
        }
        for (int official : NO_OFFICIALS_OF_SIX) {
            full(is).due(NOTHING, "taken", official, 0);
        }
        int[][] under = {{0}, {0, 1}, {0, 2}, {0, 3}, {0, 1, 4}, {0, 2, 5}, {0, 3, 6}};
        for (int kind = 0; kind <= 6; kind++) {
            int[] its = under[kind];
            GooseVotes x = Check.withVotes(kind, 1);
            int taken = 0;
            for (int k = 0; k <= 6; k++) {
                taken += x.taken(0, k) == kind ? 1 : 0;
                taken += x.taken(0, k) == CAST ? 100 : 0;
            }
            Check.due(is + ": KIND " + kind + " as so many", its.length + 100 * (7 - its.length), taken);
            for (int k : its) {
                Check.due(is + ": KIND " + kind + " for " + k, kind, x.taken(0, k));
            }
        }
    }

    private static void count() {
        for (int what : new int[] {-1, 8, MOST, LEAST}) {
            some("35: BAD").due(BAD, "count", what);
        }
        int[] most = {6, 6, 5, 5, 10, 8, 100, 0};
        GooseVotes x = Sample.full();
        for (int what = 0; what < most.length; what++) {
            Check.due("35: the most of " + what, most[what], x.count(what));
        }
    }

    private static void tape() {
        String is = "36: NONE: tape; BAD: sort, n above 60; SIZE";
        for (int tape : new int[] {-1, 6, MOST, LEAST}) {
            some(is).due(NONE, "tape", tape, 0, 1);
            some(is).due(NONE, "tape", tape, -1, 0);
            some(is).due(NONE, "tape", tape, 5, 61);
            some(is).due(NONE, "tape", tape, 0, -1);
        }
        for (int sort : new int[] {-2, 5, MOST, LEAST}) {
            some(is).due(BAD, "tape", 0, sort, 1);
            some(is).due(BAD, "tape", 0, sort, -1);
            some(is).due(BAD, "tape", 5, sort, 61);
        }
        for (int sort = 0; sort <= 4; sort++) {
            some(is).due(BAD, "tape", 0, sort, 61);
            some(is).due(BAD, "tape", 5, sort, MOST);
            some(is).due(SIZE, "tape", 0, sort, -1);
            some(is).due(SIZE, "tape", 5, sort, LEAST);
        }
        tapeTaken();
    }

    private static void tapeTaken() {
        GooseVotes x = Sample.some();
        for (int sort = 0; sort <= 4; sort++) {
            Check.due("36: a row of n (0 .. 60): the most", 1, x.tape(0, sort, 60));
            Check.due("36: its last, 0", 0, x.read(0, 59));
            Check.due("36: no more", NO, x.read(0, 60));
            x.item(0, 0, 1);
            x.item(0, 59, 1);
            Check.due("36: a row of n (0 .. 60): none", 1, x.tape(0, sort, 0));
            Check.due("36: it is there", PLACE, x.item(0, 0, 1));
            Check.due("36: it has none", NO, x.read(0, 0));
            x.tape(0, sort, 60);
            Check.due("36: all 0", 0, x.read(0, 0) + x.read(0, 59));
            x.item(0, 0, 1);
            Check.due("36: holds nothing (sort -1: n does not matter)", 1, x.tape(0, -1, sort % 2 == 0 ? -1 : 61));
            Check.due("36: nothing is there", NOTHING, x.item(0, 0, 1));
            Check.due("36: nothing to read", NO, x.read(0, 0));
        }
        Check.due("36: n far off does not matter", 2, x.tape(0, -1, LEAST) + x.tape(5, -1, MOST));
    }

    private static void item() {
        String is = "37: NONE; NOTHING; PLACE";
        for (int tape : new int[] {-1, 6, MOST, LEAST}) {
            some(is).due(NONE, "item", tape, 0, 1);
            some(is).due(NONE, "item", tape, -1, 1);
        }
        for (int i : new int[] {-1, 0, 60, MOST, LEAST}) {
            some(is).due(NOTHING, "item", 5, i, 1);
        }
        int[] sizes = {8, 60, 3, 2, 2};
        for (int tape = 0; tape < sizes.length; tape++) {
            for (int i : new int[] {-1, sizes[tape], sizes[tape] + 1, MOST, LEAST}) {
                some(is).due(PLACE, "item", tape, i, 1);
            }
            GooseVotes x = Sample.some();
            Check.due("37: the first place", 1, x.item(tape, 0, 1));
            Check.due("37: the last place", 1, x.item(tape, sizes[tape] - 1, 1));
            Check.due("37: the last place", 1, x.read(tape, sizes[tape] - 1));
        }
    }

    private static void read() {
        String is = "38: NO: no such TAPE, nothing there, no such place";
        for (int tape : new int[] {-1, 6, MOST, LEAST}) {
            some(is).due(NO, "read", tape, 0);
        }
        for (int i : new int[] {-1, 0, 1, MOST, LEAST}) {
            some(is).due(NO, "read", 5, i);
        }
        int[] sizes = {8, 60, 3, 2, 2};
        for (int tape = 0; tape < sizes.length; tape++) {
            for (int i : new int[] {-1, sizes[tape], sizes[tape] + 1, MOST, LEAST}) {
                some(is).due(NO, "read", tape, i);
            }
            some(is).due(0, "read", tape, sizes[tape] - 1);
        }
    }

    private static void shift() {
        String is = "39: NONE: tapes; NOTHING; CAST: of unlike sorts; PLACE";
        for (int tape : new int[] {-1, 6, MOST, LEAST}) {
            some(is).due(NONE, "shift", tape, 0, 0, 0, 1);
            some(is).due(NONE, "shift", 0, 0, tape, 0, 1);
            some(is).due(NONE, "shift", tape, -1, 5, 0, 1);
            some(is).due(NONE, "shift", 5, -1, tape, 0, 1);
        }
        some(is).due(NOTHING, "shift", 5, 0, 0, 0, 1);
        some(is).due(NOTHING, "shift", 0, 0, 5, 0, 1);
        some(is).due(NOTHING, "shift", 5, 0, 5, 0, 0);
        some(is).due(NOTHING, "shift", 5, -1, 0, -1, -1);
        some(is).due(NOTHING, "shift", 0, -1, 5, -1, -1);
        for (int other = 1; other <= 4; other++) {
            some(is).due(CAST, "shift", 0, 0, other, 0, 1);
            some(is).due(CAST, "shift", other, 0, 0, 0, 1);
            some(is).due(CAST, "shift", other, 0, 0, 0, 0);
            some(is).due(CAST, "shift", 0, -1, other, 61, -1);
        }
        shiftPlaces();
        shiftTaken();
    }

    /** TAPE 0 of some() has eight bytes, TAPE 5 becomes a row of three. */
    private static GooseVotes withShortOne() {
        GooseVotes x = Sample.some();
        x.tape(5, 0, 3);
        x.item(5, 0, 21);
        x.item(5, 2, 23);
        return x;
    }

    private static void shiftPlaces() {
        Same off = new Same("39: PLACE: n, i or j is below 0, or beyond either's end", RefusalsTest::withShortOne);
        int[][] places = {{-1, 0, 1}, {0, -1, 1}, {0, 0, -1}, {-1, 0, 0}, {0, -1, 0}, {-1, -1, -1}, {8, 0, 1}, {7, 0, 2},
            {6, 0, 3}, {9, 0, 0}, {0, 3, 1}, {0, 2, 2}, {0, 0, 4}, {0, 4, 0}, {0, 0, 9}, {MOST, 0, 1}, {0, MOST, 1},
            {0, 0, MOST}, {1, 1, MOST}, {MOST, MOST, MOST}, {LEAST, 0, 1}, {0, LEAST, 1}, {0, 0, LEAST},
            {LEAST, 0, MOST}, {2, MOST, 2}, {MOST, 0, 0}, {0, MOST, 0}};
        for (int[] p : places) {
            off.due(PLACE, "shift", 0, p[0], 5, p[1], p[2]);
            off.due(PLACE, "shift", 5, p[1], 0, p[0], p[2]);
        }
        off.due(PLACE, "shift", 0, 0, 0, 1, 8);
        off.due(PLACE, "shift", 0, 1, 0, 0, 8);
        off.due(0, "shift", 0, 8, 5, 3, 0);
        off.due(0, "shift", 0, 0, 5, 0, 0);
    }

    private static void dueRow(String words, GooseVotes x, int tape, int... items) {
        for (int i = 0; i < items.length; i++) {
            Check.due(words + ": item " + i + " of " + tape, items[i], x.read(tape, i));
        }
    }

    private static void shiftTaken() {
        String is = "39: n items of a TAPE come to another one (or the same), as they all were before";
        GooseVotes x = withShortOne();
        Check.due(is + ": to its end", 2, x.shift(0, 0, 5, 1, 2));
        dueRow(is, x, 5, 21, 9, 3);
        Check.due(is + ": all of it, to the other's end", 3, x.shift(5, 0, 0, 5, 3));
        dueRow(is, x, 0, 9, 3, 4, 5, 1, 21, 9, 3);
        Check.due(is + ": from its end", 1, x.shift(0, 7, 5, 0, 1));
        dueRow(is, x, 5, 3, 9, 3);
        Check.due(is + ": up the same", 7, x.shift(0, 0, 0, 1, 7));
        dueRow(is, x, 0, 9, 9, 3, 4, 5, 1, 21, 9);
        Check.due(is + ": down the same", 7, x.shift(0, 1, 0, 0, 7));
        dueRow(is, x, 0, 9, 3, 4, 5, 1, 21, 9, 9);
        Check.due(is + ": to where it is", 8, x.shift(0, 0, 0, 0, 8));
        dueRow(is, x, 0, 9, 3, 4, 5, 1, 21, 9, 9);
    }
}
