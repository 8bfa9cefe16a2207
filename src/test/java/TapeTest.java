/** Promises 36 to 39: TAPES. */
public final class TapeTest {
    public static void main(String[] args) {
        tape();
        item();
        read();
        shift();
        shiftRefused();
        Check.end("TapeTest");
    }

    private static void tape() {
        GooseVotes x = new GooseVotes();
        Check.due("36: tape 6", Check.NONE, x.tape(6, 9, -1));
        Check.due("36: tape -1", Check.NONE, x.tape(-1, 0, 0));
        Check.due("36: sort 5", Check.BAD, x.tape(0, 5, -1));
        Check.due("36: sort -2", Check.BAD, x.tape(0, -2, 0));
        Check.due("36: n 61", Check.BAD, x.tape(0, 0, 61));
        Check.due("36: n -1", Check.SIZE, x.tape(0, 0, -1));
        Check.due("36: nothing came", Check.NOTHING, x.item(0, 0, 0));
        for (int sort = 0; sort <= 4; sort++) {
            Check.due("36: a row", 1, x.tape(sort, sort, 60));
            Check.due("36: all 0", 0, x.read(sort, 59));
            Check.due("36: 60 of them", Check.NO, x.read(sort, 60));
        }
        Check.due("37: item", 1, x.item(4, 0, 1));
        Check.due("36: refused", Check.SIZE, x.tape(4, 0, -1));
        Check.due("36: nothing changed", 1, x.read(4, 0));
        Check.due("36: a row of 2", 1, x.tape(4, 4, 2));
        Check.due("36: all 0 anew", 0, x.read(4, 0));
        Check.due("36: two of them", Check.NO, x.read(4, 2));
        Check.due("36: a row of none", 1, x.tape(4, 3, 0));
        Check.due("36: none is there", Check.PLACE, x.item(4, 0, 0));
        Check.due("36: holds nothing, n does not matter", 1, x.tape(4, -1, -99));
        Check.due("36: nothing there", Check.NOTHING, x.item(4, 0, 0));
        Check.due("36: nothing to read", Check.NO, x.read(4, 0));
        Check.due("36: holds nothing, n does not matter", 1, x.tape(4, -1, 99));
    }

    private static void dueItem(GooseVotes x, int sort, long v, long is) {
        x.tape(sort, sort, 3);
        Check.due("37: item", 1, x.item(sort, 1, v));
        Check.due("37: " + v + " in sort " + sort, is, x.read(sort, 1));
        Check.due("37: the one ahead", 0, x.read(sort, 0));
        Check.due("37: the one behind", 0, x.read(sort, 2));
    }

    private static void item() {
        GooseVotes x = new GooseVotes();
        dueItem(x, 0, 127, 127);
        dueItem(x, 0, 128, -128);
        dueItem(x, 0, 0x1234567890L, -112);
        dueItem(x, 1, 32767, 32767);
        dueItem(x, 1, 32768, -32768);
        dueItem(x, 1, -32769, 32767);
        dueItem(x, 2, 2147483648L, -2147483648L);
        dueItem(x, 2, 4294967297L, 1);
        dueItem(x, 3, Long.MIN_VALUE + 1, Long.MIN_VALUE + 1);
        dueItem(x, 3, Long.MAX_VALUE, Long.MAX_VALUE);
        dueItem(x, 4, 0, 0);
        dueItem(x, 4, 1, 1);
        dueItem(x, 4, -7, 1);
        dueItem(x, 4, 4294967296L, 1);
        Check.due("37: tape 6", Check.NONE, x.item(6, 0, 0));
        Check.due("37: tape -1", Check.NONE, x.item(-1, 0, 0));
        Check.due("37: nothing there", Check.NOTHING, x.item(5, -1, 0));
        Check.due("37: place 3", Check.PLACE, x.item(0, 3, 0));
        Check.due("37: place -1", Check.PLACE, x.item(0, -1, 0));
        for (int far : Check.FAR) {
            Check.due("37: place " + far, Check.PLACE, x.item(0, far, 0));
        }
    }

    private static void read() {
        GooseVotes x = new GooseVotes();
        x.tape(2, 3, 1);
        x.item(2, 0, 77);
        Check.due("38: read", 77, x.read(2, 0));
        Check.due("38: tape 6", Check.NO, x.read(6, 0));
        Check.due("38: tape -1", Check.NO, x.read(-1, 0));
        Check.due("38: nothing there", Check.NO, x.read(0, 0));
        Check.due("38: place 1", Check.NO, x.read(2, 1));
        Check.due("38: place -1", Check.NO, x.read(2, -1));
        for (int far : Check.FAR) {
            Check.due("38: place " + far, Check.NO, x.read(2, far));
        }
    }

    private static GooseVotes withRows() {
        GooseVotes x = new GooseVotes();
        x.tape(0, 2, 5);
        x.tape(1, 2, 3);
        x.tape(2, 3, 5);
        for (int i = 0; i < 5; i++) {
            x.item(0, i, 10 + i);
        }
        return x;
    }

    private static void dueRow(GooseVotes x, int tape, long... items) {
        for (int i = 0; i < items.length; i++) {
            Check.due("39: item " + i + " of " + tape, items[i], x.read(tape, i));
        }
    }

    private static void shift() {
        GooseVotes x = withRows();
        Check.due("39: to another one", 2, x.shift(0, 3, 1, 1, 2));
        dueRow(x, 1, 0, 13, 14);
        dueRow(x, 0, 10, 11, 12, 13, 14);
        Check.due("39: up the same one", 4, x.shift(0, 0, 0, 1, 4));
        dueRow(x, 0, 10, 10, 11, 12, 13);
        Check.due("39: down the same one", 3, x.shift(0, 2, 0, 0, 3));
        dueRow(x, 0, 11, 12, 13, 12, 13);
        Check.due("39: all of it", 3, x.shift(1, 0, 0, 2, 3));
        dueRow(x, 0, 11, 12, 0, 13, 14);
        Check.due("39: none, from the end to the end", 0, x.shift(0, 5, 1, 3, 0));
        dueRow(x, 0, 11, 12, 0, 13, 14);
    }

    private static void shiftRefused() {
        GooseVotes x = withRows();
        Check.due("39: tape 6", Check.NONE, x.shift(6, 0, 5, 0, 1));
        Check.due("39: tape -1", Check.NONE, x.shift(-1, 0, 0, 0, 1));
        Check.due("39: other 6", Check.NONE, x.shift(5, 0, 6, 0, 1));
        Check.due("39: other -1", Check.NONE, x.shift(0, 0, -1, 0, 1));
        Check.due("39: nothing there", Check.NOTHING, x.shift(5, -1, 0, 0, 1));
        Check.due("39: nothing there", Check.NOTHING, x.shift(0, 0, 5, -1, 1));
        Check.due("39: unlike sorts", Check.CAST, x.shift(0, -1, 2, 0, 1));
        int[][] places = {{-1, 0, 1}, {0, -1, 1}, {0, 0, -1}, {3, 0, 3}, {0, 1, 3}, {6, 0, 0}, {0, 4, 0}, {5, 0, 1},
            {Integer.MAX_VALUE, 0, 1}, {0, Integer.MAX_VALUE, 1}, {1, 1, Integer.MAX_VALUE}, {5, 3, Integer.MAX_VALUE}};
        for (int[] p : places) {
            Check.due("39: from " + p[0] + " to " + p[1] + ", " + p[2], Check.PLACE, x.shift(0, p[0], 1, p[1], p[2]));
        }
        dueRow(x, 1, 0, 0, 0);
    }
}
