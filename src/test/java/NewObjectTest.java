/** Promise 1. */
public final class NewObjectTest {
    public static void main(String[] args) {
        GooseVotes x = new GooseVotes();
        for (int what = 0; what <= 7; what++) {
            Check.due("count(" + what + ")", 0, x.count(what));
        }
        Check.due("told(1)", 0, x.told(1));
        Check.due("told(3)", -5, x.told(3));
        Check.due("of(0, 0)", -10001, x.of(0, 0));
        Check.due("undo()", GooseVotes.STATE, x.undo());
        Check.end("NewObjectTest");
    }
}
