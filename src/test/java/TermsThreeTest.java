/** The sentences of "Terms", section 3, and of the rows behind it that name a boundary: one test each. */
public final class TermsThreeTest {
    private static final int BYTES = 0, SHORTS = 1, INTS = 2, LONGS = 3, BOOLEANS = 4;
    private static final int MOST = Integer.MAX_VALUE, LEAST = Integer.MIN_VALUE;

    public static void main(String[] args) {
        tapesAre0To5();
        tapesHoldNothingAtFirst();
        sortsAre0To4();
        bytesWrap();
        shortsWrap();
        intsWrap();
        longsDoNot();
        booleansAre0Or1();
        judgedTellsTheFirstThatIsOtherwise();
        judgedWithoutOfficials();
        judgedByARowThatEnds();
        judgedByAPlaceBelow0();
        judgedByATapeThatHoldsNothing();
        numbersOfAnswers();
        belowZeroHasItsOwnNone();
        constants();
        answersUpToThe512thCall();
        Check.end("TermsThreeTest");
    }

    private static void tapesAre0To5() {
        String is = "TAPES 0 .. 5";
        for (int tape : new int[] {0, 5}) {
            GooseVotes x = Check.withVotes(0, 7);
            Check.due(is + ": tape", 1, x.tape(tape, BYTES, 1));
            Check.due(is + ": item", 1, x.item(tape, 0, 7));
            Check.due(is + ": read", 7, x.read(tape, 0));
            Check.due(is + ": judge", -5, x.judge(tape, 0));
            Check.due(is + ": shift", 1, x.shift(tape, 0, tape, 0, 1));
        }
        Same off = new Same(is, Sample::some);
        for (int tape : new int[] {-1, 6}) {
            off.due(Check.NONE, "tape", tape, BYTES, 1);
            off.due(Check.NONE, "item", tape, 0, 1);
            off.due(Check.NO, "read", tape, 0);
            off.due(Check.NONE, "judge", tape, 0);
            off.due(Check.NONE, "shift", tape, 0, 0, 0, 1);
            off.due(Check.NONE, "shift", 0, 0, tape, 0, 1);
        }
    }

    private static void tapesHoldNothingAtFirst() {
        String is = "TAPES hold nothing (at first)";
        GooseVotes x = new GooseVotes();
        for (int tape = 0; tape < 6; tape++) {
            Check.due(is + ": item", Check.NOTHING, x.item(tape, 0, 1));
            Check.due(is + ": read", Check.NO, x.read(tape, 0));
            Check.due(is + ": shift", Check.NOTHING, x.shift(tape, 0, tape, 0, 0));
        }
    }

    private static void sortsAre0To4() {
        String is = "a row of 0 bytes, 1 shorts, 2 ints, 3 longs, 4 booleans";
        GooseVotes x = new GooseVotes();
        for (int sort = BYTES; sort <= BOOLEANS; sort++) {
            Check.due(is + ": " + sort, 1, x.tape(sort, sort, 2));
            Check.due(is + ": all 0", 0, x.read(sort, 0) + x.read(sort, 1));
        }
        for (int one = BYTES; one <= BOOLEANS; one++) {
            for (int other = BYTES; other <= BOOLEANS; other++) {
                Check.due(is + ": " + one + ", " + other, one == other ? 1 : Check.CAST, x.shift(one, 0, other, 1, 1));
            }
        }
        Same off = new Same(is, Sample::some);
        off.due(Check.BAD, "tape", 0, -2, 1);
        off.due(Check.BAD, "tape", 0, 5, 1);
        off.due(Check.BAD, "tape", 5, LEAST, 1);
        off.due(Check.BAD, "tape", 5, MOST, 1);
    }

    /** Each number and what an item becomes by it, two by two. */
    private static void dueItems(String sentence, int sort, long... items) {
        GooseVotes x = new GooseVotes();
        x.tape(0, sort, 3);
        for (int i = 0; i < items.length; i += 2) {
            Check.due(sentence + ": item", 1, x.item(0, 1, items[i]));
            Check.due(sentence + ": " + items[i], items[i + 1], x.read(0, 1));
            Check.due(sentence + ": beside " + items[i], 0, x.read(0, 0) + x.read(0, 2));
        }
    }

    private static void bytesWrap() {
        dueItems("its lowest bits, of bytes", BYTES, 0, 0, 1, 1, -1, -1, 127, 127, 128, -128, 129, -127, 255, -1, 256, 0,
            257, 1, -128, -128, -129, 127, -256, 0, Long.MAX_VALUE, -1, Long.MIN_VALUE, 0);
    }

    private static void shortsWrap() {
        dueItems("its lowest bits, of shorts", SHORTS, 0, 0, -1, -1, 128, 128, 32767, 32767, 32768, -32768, 65535, -1,
            65536, 0, 65537, 1, -32768, -32768, -32769, 32767, Long.MAX_VALUE, -1, Long.MIN_VALUE, 0);
    }

    private static void intsWrap() {
        dueItems("its lowest bits, of ints", INTS, 0, 0, -1, -1, 32768, 32768, MOST, MOST, MOST + 1L, LEAST, LEAST, LEAST,
            LEAST - 1L, MOST, 4294967295L, -1, 4294967296L, 0, 4294967297L, 1, Long.MAX_VALUE, -1, Long.MIN_VALUE, 0);
    }

    private static void longsDoNot() {
        dueItems("its lowest bits, of longs", LONGS, 0, 0, -1, -1, MOST + 1L, MOST + 1L, LEAST - 1L, LEAST - 1L,
            Long.MAX_VALUE, Long.MAX_VALUE, Long.MIN_VALUE + 1, Long.MIN_VALUE + 1, Long.MIN_VALUE, Long.MIN_VALUE);
    }

    private static void booleansAre0Or1() {
        dueItems("booleans (items 0, 1): whether v is not 0", BOOLEANS, 0, 0, 1, 1, 2, 1, 0, 0, -1, 1, 0, 0, 256, 1, 0, 0,
            4294967296L, 1, 0, 0, Long.MIN_VALUE, 1);
    }

    private static GooseVotes judging(int[] votes, int... items) {
        GooseVotes x = Check.withVotes(0, votes);
        x.tape(2, BYTES, items.length);
        for (int i = 0; i < items.length; i++) {
            x.item(2, i, items[i]);
        }
        return x;
    }

    private static void judgedTellsTheFirstThatIsOtherwise() {
        String is = "VOTES told by a row of bytes are JUDGED: the first that is otherwise; -5: none";
        int[] votes = {9, 0, 1, 2, 3, 4};
        GooseVotes x = judging(votes, 9, 0, 1, 2, 3, 4);
        Check.due(is + ": none", -5, x.judge(2, 0));
        for (int official = 5; official >= 0; official--) {
            x.item(2, official, votes[official] - 1);
            Check.due(is + ": one less, of " + official, official, x.judge(2, 0));
            x.item(2, official, votes[official] + 1);
            Check.due(is + ": one more, of " + official, official, x.judge(2, 0));
        }
        GooseVotes wrapped = judging(new int[] {9}, 256 + 9, 256 - 9);
        Check.due(is + ": its lowest bits", -5, wrapped.judge(2, 0));
        Check.due(is + ": below 0", 0, wrapped.judge(2, 1));
        GooseVotes away = judging(new int[] {9, 8}, 9, 7);
        away.away(1, true);
        Check.due(is + ": one that is AWAY", 1, away.judge(2, 0));
    }

    private static void judgedWithoutOfficials() {
        String is = "-5: none, or there are no OFFICIALS";
        GooseVotes x = judging(new int[0], 9);
        Check.due(is + ": a row", -5, x.judge(2, 0));
        Check.due(is + ": its end", -5, x.judge(2, 1));
        Check.due(is + ": beyond", -5, x.judge(2, MOST));
        Check.due(is + ": below 0", -5, x.judge(2, -1));
        Check.due(is + ": far below 0", -5, x.judge(2, LEAST));
        Check.due(is + ": nothing held", -5, x.judge(0, 0));
    }

    private static void judgedByARowThatEnds() {
        String is = "100 and how many were looked at, if the row ends ahead of that";
        GooseVotes x = judging(new int[] {3, 4}, 1, 3, 4, 3);
        Check.due(is + ": just not", -5, x.judge(2, 1));
        Check.due(is + ": behind one", 101, x.judge(2, 3));
        Check.due(is + ": at its end", 100, x.judge(2, 4));
        Check.due(is + ": one beyond its end", 100, x.judge(2, 5));
        Check.due(is + ": far beyond", 100, x.judge(2, MOST));
        Check.due(is + ": otherwise ahead of its end", 0, x.judge(2, 2));
        x.item(2, 3, 5);
        Check.due(is + ": otherwise in its last", 0, x.judge(2, 3));
        GooseVotes five = judging(new int[] {1, 2, 3, 4, 5, 6}, 1, 2, 3, 4, 5);
        Check.due(is + ": one too few", 105, five.judge(2, 0));
        Check.due(is + ": a row of none", 100, judging(new int[] {0}).judge(2, 0));
        GooseVotes most = Check.withVotes(0, 0, 0);
        most.tape(2, BYTES, 60);
        Check.due(is + ": the last two of sixty", -5, most.judge(2, 58));
        Check.due(is + ": the last one of sixty", 101, most.judge(2, 59));
        Check.due(is + ": beyond sixty", 100, most.judge(2, 60));
    }

    private static void judgedByAPlaceBelow0() {
        String is = "100 (or the place is below 0)";
        GooseVotes x = judging(new int[] {0}, 0, 0);
        Check.due(is + ": it is 0", -5, x.judge(2, 0));
        Check.due(is + ": one below", 100, x.judge(2, -1));
        Check.due(is + ": far below", 100, x.judge(2, LEAST));
    }

    private static void judgedByATapeThatHoldsNothing() {
        String is = "100 (or the TAPE holds nothing)";
        GooseVotes x = judging(new int[] {0}, 0);
        Check.due(is + ": it never did", 100, x.judge(0, 0));
        Check.due(is + ": it does", -5, x.judge(2, 0));
        Check.due(is + ": nothing now", 1, x.tape(2, -1, 0));
        Check.due(is + ": nothing now", 100, x.judge(2, 0));
        Check.due(is + ": ints once", 1, x.tape(2, INTS, 1) * x.tape(2, -1, 0));
        Check.due(is + ": nothing, ints once", 100, x.judge(2, 0));
        Check.due(is + ": nothing, and below 0", 100, x.judge(2, -1));
    }

    private static void numbersOfAnswers() {
        GooseVotes x = Sample.full();
        Check.due("NONE (-1)", -1, x.bribe(5));
        Check.due("BAD (-2)", -2, x.egg(10));
        Check.due("STATE (-3)", -3, x.put(0));
        Check.due("FULL (-4)", -4, x.feed(0));
        Check.due("NOTHING (-11)", -11, x.item(0, 0, 0));
        Check.due("CAST (-12)", -12, x.taken(2, 1));
        Check.due("SIZE (-14)", -14, x.tape(0, 0, -1));
        x.tape(0, 0, 1);
        Check.due("PLACE (-13)", -13, x.item(0, 1, 0));
    }

    private static void belowZeroHasItsOwnNone() {
        String is = "Where it may be below 0, -10001 stands for NONE";
        Same off = new Same(is, Sample::some);
        off.due(-10001, "of", -1, 20);
        off.due(-10001, "of", 4, 20);
        off.due(-10001, "of", 0, 25);
        GooseVotes x = Check.withVotes(3, 1);
        x.base(0, 0, 1);
        Check.due(is + ": LIKES -1 is none", -1, x.of(0, 20));
    }

    private static void constants() {
        Check.due("NONE", -1, GooseVotes.NONE);
        Check.due("BAD", -2, GooseVotes.BAD);
        Check.due("STATE", -3, GooseVotes.STATE);
        Check.due("FULL", -4, GooseVotes.FULL);
        Check.due("NO = Long.MIN_VALUE", Long.MIN_VALUE, GooseVotes.NO);
    }

    private static void answersUpToThe512thCall() {
        String is = "An object is used for at most 512 calls";
        GooseVotes x = Check.withVotes(3, 1);
        x.put(4);
        for (int call = 3; call <= 510; call += 3) {
            Check.due(is + ": SESSION, call " + call, call / 3, x.pass(1));
            Check.due(is + ": EGG, call " + (call + 1), call / 3 * 7 % 10, x.told(2));
            Check.due(is + ": LIKES, call " + (call + 2), -5, x.of(0, 24));
        }
    }
}
