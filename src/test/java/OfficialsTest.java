/** Promises 1 to 9: a new object, OFFICIALS, THE AGENDA, EGG, the ROW. */
public final class OfficialsTest {
    public static void main(String[] args) {
        newObject();
        official();
        of();
        likesByKind();
        base();
        votes();
        away();
        put();
        egg();
        row();
        Check.end("OfficialsTest");
    }

    private static void newObject() {
        GooseVotes x = new GooseVotes();
        for (int what = 0; what <= 7; what++) {
            Check.due("1: count(" + what + ")", 0, x.count(what));
        }
        Check.due("1: QUOTA", 0, x.told(1));
        Check.due("1: EGG", 0, x.told(2));
        Check.due("1: by THE AGENDA", -5, x.told(3));
        Check.due("1: no OFFICIAL", Check.NONE_LOW, x.of(0, 0));
        Check.due("1: no image", Check.STATE, x.undo());
        Check.due("1: no tape", Check.NO, x.read(0, 0));
    }

    private static void official() {
        GooseVotes x = new GooseVotes();
        Check.due("2: kind -1 comes first", Check.NONE, x.official(-1, 10, 10));
        Check.due("2: kind 7", Check.NONE, x.official(7, 0, 0));
        Check.due("2: v -1", Check.BAD, x.official(0, -1, 0));
        Check.due("2: v 10", Check.BAD, x.official(0, 10, 0));
        Check.due("2: votes -1", Check.BAD, x.official(0, 0, -1));
        Check.due("2: votes 10", Check.BAD, x.official(0, 0, 10));
        Check.due("2: none came", 0, x.count(0));
        for (int kind = 1; kind <= 6; kind++) {
            Check.due("2: its number", kind - 1, x.official(kind, kind, 9 - kind));
        }
        Check.due("2: a seventh", Check.FULL, x.official(0, 9, 9));
        Check.due("2: kind ahead of FULL", Check.NONE, x.official(7, 0, 0));
        Check.due("2: v ahead of FULL", Check.BAD, x.official(0, 10, 0));
        Check.due("2: six came", 6, x.count(0));
        for (int kind = 1; kind <= 6; kind++) {
            Check.due("2: KIND", kind, x.of(kind - 1, 0));
            Check.due("2: v", kind, x.of(kind - 1, 1));
            Check.due("2: VOTES", 9 - kind, x.of(kind - 1, 2));
        }
    }

    private static void of() {
        GooseVotes x = new GooseVotes();
        x.official(2, 9, 7);
        Check.due("3: KIND", 2, x.of(0, 0));
        Check.due("3: v", 9, x.of(0, 1));
        Check.due("3: VOTES", 7, x.of(0, 2));
        Check.due("3: AWAY", 0, x.of(0, 3));
        for (int thing = 0; thing < 5; thing++) {
            Check.due("3: BASE at first", 5, x.of(0, 10 + thing));
            Check.due("3: LIKES", 2, x.of(0, 20 + thing));
        }
        for (int what : new int[] {-1, 4, 9, 15, 19, 25, Integer.MIN_VALUE, Integer.MAX_VALUE}) {
            Check.due("3: of(0, " + what + ")", Check.NONE_LOW, x.of(0, what));
        }
        for (int far : Check.FAR) {
            Check.due("3: of(" + far + ", 0)", Check.NONE_LOW, x.of(far, 0));
        }
        Check.due("3: the next official", Check.NONE_LOW, x.of(1, 0));
    }

    private static void dueLikes(String what, GooseVotes x, int official, int... likes) {
        for (int thing = 0; thing < likes.length; thing++) {
            Check.due("3: LIKES of " + what + " for " + thing, likes[thing], x.of(official, 20 + thing));
        }
    }

    private static void likesByKind() {
        GooseVotes x = new GooseVotes();
        for (int kind = 0; kind <= 5; kind++) {
            x.official(kind, 3, 1);
            Check.bases(x, kind, 9, 4, 7, 3, 0);
        }
        dueLikes("OFFICIAL", x, 0, 9, 4, 7, 3, 0);
        dueLikes("CLERK", x, 1, 12, 4, 10, 3, 3);
        dueLikes("KEEPER", x, 2, 4, 2, 3, 1, 0);
        dueLikes("RADICAL", x, 3, -9, -4, -7, -3, 0);
        dueLikes("CHIEF", x, 4, 12, 4, 10, 3, 3);
        dueLikes("NURSE", x, 5, 4, 2, 3, 1, 0);
        x.egg(3);
        dueLikes("CHIEF, EGG as v", x, 4, 12, 4, 10, 3, 3);
        dueLikes("NURSE with EGG", x, 5, 7, 2, 3, 1, 0);
        x.egg(4);
        dueLikes("CHIEF, EGG above v", x, 4, 0, 0, 0, 0, 0);
        Check.due("3: TREATY", 0, Check.treaty(x, "loathe 18 x<9"));
        dueLikes("OFFICIAL below 0", x, 0, -9, -14, -11, -15, -18);
        dueLikes("KEEPER cut toward 0", x, 2, -4, -7, -5, -7, -9);
        dueLikes("RADICAL of what it loathes", x, 3, 9, 14, 11, 15, 18);
        dueLikes("NURSE cut toward 0", x, 5, 0, -7, -5, -7, -9);

        GooseVotes y = new GooseVotes();
        y.official(6, 3, 1);
        Check.bases(y, 0, 9, 4, 7, 3, 0);
        dueLikes("TOLD", y, 0, -9, -4, -7, -3, 0);
        y.row(0, 0, 8);
        y.row(0, 1, 1);
        y.row(0, 3, 2);
        dueLikes("TOLD, SESSION 0", y, 0, -1, 4, 1, 5, 8);
        y.pass(1);
        dueLikes("TOLD, SESSION 1", y, 0, -8, -3, -6, -2, 1);
        y.pass(2);
        dueLikes("TOLD, SESSION 3", y, 0, -7, -2, -5, -1, 2);
        y.pass(1);
        dueLikes("TOLD, SESSION 4", y, 0, -1, 4, 1, 5, 8);
    }

    private static void base() {
        GooseVotes x = Check.withVotes(0, 1, 1);
        Check.due("4: was", 5, x.base(1, 4, 0));
        Check.due("4: was", 0, x.base(1, 4, 9));
        Check.due("4: is", 9, x.of(1, 14));
        Check.due("4: another's", 5, x.of(0, 14));
        Check.due("4: another thing's", 5, x.of(1, 13));
        Check.due("4: official ahead of n", Check.NONE, x.base(2, 0, 10));
        Check.due("4: official -1", Check.NONE, x.base(-1, 0, 0));
        Check.due("4: thing 5", Check.NONE, x.base(0, 5, 10));
        Check.due("4: thing -1", Check.NONE, x.base(0, -1, 0));
        Check.due("4: n -1", Check.BAD, x.base(0, 0, -1));
        Check.due("4: n 10", Check.BAD, x.base(0, 0, 10));
        Check.due("4: nothing changed", 5, x.of(0, 10));
    }

    private static void votes() {
        GooseVotes x = Check.withVotes(0, 3, 4);
        Check.due("5: were", 4, x.votes(1, 0));
        Check.due("5: were", 0, x.votes(1, 9));
        Check.due("5: are", 9, x.of(1, 2));
        Check.due("5: another's", 3, x.of(0, 2));
        Check.due("5: official ahead of n", Check.NONE, x.votes(2, 10));
        Check.due("5: official -1", Check.NONE, x.votes(-1, 0));
        Check.due("5: n -1", Check.BAD, x.votes(0, -1));
        Check.due("5: n 10", Check.BAD, x.votes(0, 10));
        Check.due("5: nothing changed", 3, x.of(0, 2));
    }

    private static void away() {
        GooseVotes x = Check.withVotes(0, 3, 4);
        Check.due("6: was not", 0, x.away(1, true));
        Check.due("6: was", 1, x.away(1, true));
        Check.due("6: is", 1, x.of(1, 3));
        Check.due("6: another is not", 0, x.of(0, 3));
        Check.due("6: was", 1, x.away(1, false));
        Check.due("6: is not", 0, x.of(1, 3));
        Check.due("6: official 2", Check.NONE, x.away(2, true));
        Check.due("6: official -1", Check.NONE, x.away(-1, true));
    }

    private static void put() {
        GooseVotes x = new GooseVotes();
        Check.due("7: empty already", 0, x.put(-1));
        Check.due("7: thing 5", Check.NONE, x.put(5));
        Check.due("7: thing -2", Check.NONE, x.put(-2));
        int[] things = {3, 0, 4, 2, 1};
        for (int i = 0; i < 5; i++) {
            Check.due("7: put", i + 1, x.put(things[i]));
            Check.due("7: put again", Check.STATE, x.put(things[i]));
        }
        Check.due("7: the first stays the first", 3, x.told(3));
        Check.due("7: five are on it", 5, x.count(2));
        Check.due("7: thing 5 with all on it", Check.NONE, x.put(5));
        Check.due("7: emptied", 0, x.put(-1));
        Check.due("7: none is on it", 0, x.count(2));
        Check.due("7: put anew", 1, x.put(1));
        Check.due("7: the first now", 1, x.told(3));
    }

    private static void egg() {
        GooseVotes x = new GooseVotes();
        Check.due("8: was", 0, x.egg(9));
        Check.due("8: was", 9, x.egg(4));
        Check.due("8: is", 4, x.told(2));
        Check.due("8: -1", Check.BAD, x.egg(-1));
        Check.due("8: 10", Check.BAD, x.egg(10));
        Check.due("8: nothing changed", 4, x.egg(0));
    }

    private static void row() {
        GooseVotes x = Check.withVotes(6, 1, 1);
        x.official(3, 0, 1);
        Check.due("9: was", 0, x.row(1, 0, 9));
        Check.due("9: was", 9, x.row(1, 0, 2));
        Check.due("9: was", 0, x.row(1, 3, 1));
        Check.due("9: another's", 0, x.row(0, 0, 0));
        Check.due("9: official 3", Check.NONE, x.row(3, 0, 10));
        Check.due("9: official -1", Check.NONE, x.row(-1, 0, 0));
        Check.due("9: part 4 of another KIND", Check.NONE, x.row(2, 4, 10));
        Check.due("9: part -1", Check.NONE, x.row(0, -1, 0));
        Check.due("9: n 10 of another KIND", Check.BAD, x.row(2, 0, 10));
        Check.due("9: n -1", Check.BAD, x.row(0, 0, -1));
        Check.due("9: another KIND", Check.STATE, x.row(2, 0, 0));
        Check.due("9: nothing changed", 2, x.row(1, 0, 2));
    }
}
