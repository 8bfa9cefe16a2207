/** Promises 29 to 35: judging, the image, acts, counts. */
public final class ImageActTest {
    public static void main(String[] args) {
        judge();
        image();
        imageOfRows();
        imageOfTreaty();
        notInTheImage();
        act();
        trace();
        taken();
        count();
        Check.end("ImageActTest");
    }

    private static void fill(GooseVotes x, int tape, int sort, long... items) {
        x.tape(tape, sort, items.length);
        for (int i = 0; i < items.length; i++) {
            Check.due("37: item", 1, x.item(tape, i, items[i]));
        }
    }

    private static void judge() {
        GooseVotes x = new GooseVotes();
        Check.due("29: no OFFICIALS, nothing held", -5, x.judge(0, -1));
        fill(x, 1, 2, 1, 2);
        Check.due("29: ints and no OFFICIALS", Check.CAST, x.judge(1, 0));
        x.official(0, 0, 4);
        x.official(0, 0, 0);
        x.official(0, 0, 9);
        Check.due("29: nothing held", 100, x.judge(0, 0));
        Check.due("29: nothing held, place below 0", 100, x.judge(0, -1));
        Check.due("29: ints", Check.CAST, x.judge(1, -1));
        fill(x, 2, 4, 1, 0);
        Check.due("29: booleans", Check.CAST, x.judge(2, 0));
        Check.due("29: tape 6", Check.NONE, x.judge(6, 0));
        Check.due("29: tape -1", Check.NONE, x.judge(-1, 0));
        fill(x, 3, 0, 7, 4, 0, 9, 4, 256, 8, 4);
        Check.due("29: all are so", -5, x.judge(3, 1));
        Check.due("29: the first is otherwise", 0, x.judge(3, 0));
        Check.due("29: the third is otherwise", 2, x.judge(3, 4));
        Check.due("29: it ends behind one", 101, x.judge(3, 7));
        Check.due("29: it ends ahead of all", 100, x.judge(3, 8));
        Check.due("29: far beyond", 100, x.judge(3, Integer.MAX_VALUE));
        Check.due("29: below 0", 100, x.judge(3, Integer.MIN_VALUE));
        fill(x, 4, 0, 4, 0);
        Check.due("29: it ends behind two", 102, x.judge(4, 0));
        fill(x, 5, 0);
        Check.due("29: a row of none", 100, x.judge(5, 0));
        x.away(0, true);
        Check.due("29: one AWAY is judged, too", -5, x.judge(3, 1));
    }

    private static void image() {
        GooseVotes x = new GooseVotes();
        Check.due("31: there is none", Check.STATE, x.undo());
        x.official(6, 3, 1);
        x.official(2, 4, 2);
        x.row(0, 2, 7);
        x.base(1, 4, 8);
        x.put(3);
        x.put(1);
        x.egg(6);
        x.pass(2);
        Check.due("30: how many", 2, x.image());
        x.official(4, 9, 9);
        x.row(0, 2, 1);
        x.base(1, 4, 1);
        x.votes(1, 9);
        x.away(0, true);
        x.put(0);
        x.pass(5);
        x.egg(9);
        for (int twice = 0; twice < 2; twice++) {
            Check.due("31: how many", 2, x.undo());
            Check.due("31: OFFICIALS", 2, x.count(0));
            Check.due("31: KIND", 6, x.of(0, 0));
            Check.due("31: v", 4, x.of(1, 1));
            Check.due("31: VOTES", 2, x.of(1, 2));
            Check.due("31: AWAY", 0, x.of(0, 3));
            Check.due("31: BASE", 8, x.of(1, 14));
            Check.due("31: ROW", 7, x.row(0, 2, 7));
            Check.due("31: DONE", 2, x.told(13));
            Check.due("31: on THE AGENDA", 2, x.count(2));
            Check.due("31: first on THE AGENDA", 3, x.told(3));
            Check.due("31: EGG", 8, x.told(2));
            Check.due("31: SESSION", 2, x.told(0));
            Check.due("2: another one comes", 2, x.official(5, 1, 1));
            Check.due("2: its KIND", 5, x.of(2, 0));
            Check.due("2: its BASE", 5, x.base(2, 0, 1));
            Check.due("2: it is not AWAY", 0, x.away(2, true));
            x.undo();
            Check.due("2: one of another KIND comes", 2, x.official(6, 1, 1));
            Check.due("2: its ROW", 0, x.row(2, 1, 9));
            Check.due("2: it is not AWAY", 0, x.away(2, true));
            x.undo();
            x.official(6, 1, 1);
            Check.due("2: its ROW", 0, x.row(2, 1, 0));
            Check.due("2: it is not AWAY", 0, x.away(2, false));
        }
        Check.due("30: a newer image", 3, x.image());
        x.egg(0);
        Check.due("31: the newer image", 3, x.undo());
        Check.due("31: EGG", 8, x.told(2));
    }

    private static void imageOfRows() {
        GooseVotes x = Check.withVotes(1, 1);
        x.see(0, 0, 1, true);
        x.plan(3, 4);
        x.book(0, 2, 6);
        x.image();
        x.see(0, 0, 1, false);
        x.plan(3, 5);
        x.book(0, 2, 6);
        x.undo();
        Check.due("31: SEEN", 1, x.count(3));
        Check.due("31: the PLAN", 1, x.count(4));
        Check.due("31: the BOOK", 1, x.count(5));
        x.see(-1, 0, 0, false);
        x.see(0, 1, 0, true);
        x.plan(-1, 0);
        x.plan(3, 7);
        x.book(-1, 0, 0);
        x.book(0, 3, 5);
        x.undo();
        Check.due("31: what was SEEN", 9, x.can(0, 0));
        Check.due("31: what the PLAN was", 4, x.ends(0));
        Check.due("31: what the BOOK was", 0, x.looked());
    }

    private static void imageOfTreaty() {
        GooseVotes x = Check.withVotes(0, 1);
        x.image();
        Check.due("11: TREATY", 0, Check.treaty(x, "quota 7;like 9 x=0"));
        x.undo();
        Check.due("31: no TREATY holds", 0, x.told(1));
        Check.due("31: no CLAUSES", 5, x.of(0, 20));
        Check.due("31: TREATIES stay", 1, x.count(1));
        Check.due("11: TREATY", 1, Check.treaty(x, "quota 8;like 1 x=0"));
        x.image();
        Check.due("11: TREATY", 2, Check.treaty(x, "quota 9"));
        x.undo();
        Check.due("31: the second holds", 8, x.told(1));
        Check.due("31: its CLAUSES", 6, x.of(0, 20));
        Check.due("11: TREATY", 3, Check.treaty(x, "quota 4"));
        Check.due("11: the newest holds", 4, x.told(1));
    }

    private static void notInTheImage() {
        GooseVotes x = Check.withVotes(0, 1);
        Check.feed(x, "li");
        fill(x, 0, 0, 5);
        x.image();
        Check.feed(x, "ke");
        x.item(0, 0, 6);
        x.act(0, 2, 1);
        x.undo();
        Check.due("31: THE TEXT stays", 4, x.count(6));
        Check.due("31: TAPES stay", 6, x.read(0, 0));
        Check.due("31: THE TRACE stays", 3, x.count(7));
    }

    private static void dueAct(GooseVotes x, int official, int act, int with, int answer, int... bodies) {
        String what = "act(" + official + ", " + act + ", " + with + ")";
        Check.due("32: " + what, answer, x.act(official, act, with));
        Check.due("35: bodies of " + what, bodies.length, x.count(7));
        for (int i = 0; i < bodies.length; i++) {
            Check.due("33: body " + i + " of " + what, bodies[i], x.trace(i));
        }
        Check.due("33: no more bodies of " + what, Check.NONE, x.trace(bodies.length));
    }

    private static void act() {
        GooseVotes x = new GooseVotes();
        x.official(0, 9, 0);
        x.official(1, 2, 0);
        x.official(2, 3, 0);
        x.official(3, 4, 0);
        x.official(4, 5, 0);
        x.official(5, 6, 0);
        dueAct(x, 0, 0, 7, 7, 10);
        dueAct(x, 0, 1, 7, -2, 11, 10);
        dueAct(x, 0, 2, 7, -4, 12, 11, 10);
        dueAct(x, 1, 0, 7, 8, 10);
        dueAct(x, 1, 1, 7, 6 ^ 6, 20, 11, 10);
        dueAct(x, 1, 2, 8, (7 ^ 6) * 2, 12, 20, 11, 10);
        dueAct(x, 2, 0, 7, 23, 30, 10);
        dueAct(x, 2, 1, 7, 20, 11, 30, 10);
        dueAct(x, 2, 2, 7, 40, 12, 11, 30, 10);
        dueAct(x, 3, 0, 7, 10, 10);
        dueAct(x, 3, 1, 7, 6, 11, 10);
        dueAct(x, 3, 2, 7, 12, 40, 12, 11, 10, 11, 10);
        dueAct(x, 4, 0, 7, -11, 50, 10);
        dueAct(x, 4, 1, 7, (-12 - 5) ^ 6, 51, 20, 11, 50, 10);
        dueAct(x, 4, 2, 7, ((-12 - 5) ^ 6) * 2, 12, 51, 20, 11, 50, 10);
        dueAct(x, 5, 0, 7, 26, 30, 10);
        dueAct(x, 5, 1, 7, 20, 11, 30, 10);
        dueAct(x, 5, 2, 7, 10, 60, 12, 11, 30, 10);
        actOfTold();
        Check.due("32: wraps", Integer.MAX_VALUE * 3 + 2, x.act(2, 0, Integer.MAX_VALUE));
        Check.due("32: wraps", Integer.MIN_VALUE + 2, x.act(3, 0, Integer.MAX_VALUE));
    }

    private static void actOfTold() {
        GooseVotes x = Check.withVotes(0, 1);
        x.official(6, 5, 1);
        dueAct(x, 1, 0, 7, 8 ^ 5, 71, 10);
        dueAct(x, 1, 0, 4, 0, 71, 10);
        int looks7 = (8 ^ 5) - 5 + 3;
        int looks1 = (2 ^ 5) - 5 + 3;
        dueAct(x, 1, 1, 7, looks7, 70, 11, 71, 10, 10);
        dueAct(x, 1, 2, 7, looks7 * 2 + looks1, 40, 12, 70, 11, 71, 10, 10, 70, 11, 71, 10, 10);
    }

    private static void trace() {
        GooseVotes x = Check.withVotes(0, 1);
        Check.due("33: none ran yet", Check.NONE, x.trace(0));
        x.act(0, 2, 1);
        Check.due("33: the last", 10, x.trace(2));
        Check.due("33: beyond", Check.NONE, x.trace(3));
        Check.due("33: -1", Check.NONE, x.trace(-1));
        Check.due("33: far beyond", Check.NONE, x.trace(Integer.MAX_VALUE));
        int[][] none = {{1, 0}, {-1, 0}, {0, 3}, {0, -1}};
        for (int[] with : none) {
            x.act(0, 2, 1);
            Check.due("32: no such OFFICIAL, act", 0, x.act(with[0], with[1], 5));
            Check.due("32: no TRACE then", Check.NONE, x.trace(0));
            Check.due("32: none ran then", 0, x.count(7));
        }
    }

    private static void taken() {
        boolean[][] under = {
            {true, false, false, false, false, false, false},
            {true, true, false, false, false, false, false},
            {true, false, true, false, false, false, false},
            {true, false, false, true, false, false, false},
            {true, true, false, false, true, false, false},
            {true, false, true, false, false, true, false},
            {true, false, false, true, false, false, true},
        };
        for (int kind = 0; kind <= 6; kind++) {
            GooseVotes x = Check.withVotes(kind, 1);
            for (int k = 0; k <= 6; k++) {
                Check.due("34: KIND " + kind + " for " + k, under[kind][k] ? kind : Check.CAST, x.taken(0, k));
            }
            Check.due("34: no such OFFICIAL", Check.NOTHING, x.taken(1, 0));
            Check.due("34: OFFICIAL -1", Check.NOTHING, x.taken(-1, 6));
            Check.due("34: k 7 comes first", Check.BAD, x.taken(1, 7));
            Check.due("34: k -1", Check.BAD, x.taken(0, -1));
        }
    }

    private static void count() {
        GooseVotes x = Check.withVotes(0, 1, 1, 1);
        Check.treaty(x, "quota 1");
        Check.feed(x, "quot");
        x.put(4);
        x.put(2);
        x.see(0, 0, 1, true);
        x.plan(0, 0);
        x.plan(0, 0);
        x.book(0, 0, 0);
        x.book(0, 0, 0);
        x.book(0, 0, 0);
        x.book(0, 0, 0);
        x.book(0, 0, 0);
        x.act(0, 2, 0);
        int[] counts = {3, 1, 2, 1, 2, 5, 4, 3};
        for (int what = 0; what < counts.length; what++) {
            Check.due("35: count(" + what + ")", counts[what], x.count(what));
        }
        Check.due("35: 8", Check.BAD, x.count(8));
        Check.due("35: -1", Check.BAD, x.count(-1));
    }
}
