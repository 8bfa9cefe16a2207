/** Objects that have something in every part, made by the same calls each time. */
final class Sample {
    private static final int TOLD = 6, CLERK = 1, OFFICIAL = 0, CHIEF = 4, NURSE = 5, KEEPER = 2;

    private Sample() {
    }

    private static void feed(GooseVotes x, String text) {
        for (int i = 0; i < text.length(); i++) {
            x.feed(text.charAt(i));
        }
    }

    private static void fill(GooseVotes x, int tape, int sort, int n, long... items) {
        x.tape(tape, sort, n);
        for (int i = 0; i < items.length; i++) {
            x.item(tape, i, items[i]);
        }
    }

    /** Four OFFICIALS, the last one AWAY, and room for more of everything; THE IMAGE is of another state. */
    static GooseVotes some() {
        GooseVotes x = new GooseVotes();
        x.official(TOLD, 5, 3);
        x.official(CLERK, 4, 2);
        x.official(OFFICIAL, 7, 5);
        x.official(CHIEF, 9, 1);
        x.away(3, true);
        x.row(0, 0, 1);
        x.row(0, 1, 9);
        x.row(0, 2, 4);
        x.row(0, 3, 6);
        x.base(0, 0, 9);
        x.base(0, 3, 2);
        x.base(1, 1, 8);
        x.base(2, 4, 0);
        feed(x, "like 3 x=2&g<5;quota 1");
        x.treaty();
        x.put(3);
        x.put(0);
        x.see(1, 0, 1, true);
        x.plan(1, 2);
        x.plan(0, 0);
        x.book(0, 0, 9);
        x.pass(1);
        x.image();
        afterTheImage(x);
        return x;
    }

    private static void afterTheImage(GooseVotes x) {
        x.put(4);
        x.pass(2);
        x.egg(6);
        x.base(2, 2, 7);
        x.votes(1, 4);
        x.see(2, 2, 3, false);
        x.plan(2, 3);
        x.plan(3, 8);
        x.book(2, 2, 6);
        feed(x, "loathe 2 x=1");
        x.treaty();
        feed(x, "quota 4");
        fill(x, 0, 0, 8, 9, 3, 4, 5, 1);
        fill(x, 1, 1, 60, 300, -300);
        fill(x, 2, 2, 3, 70000);
        fill(x, 3, 3, 2, 5000000000L);
        fill(x, 4, 4, 2, 1);
        x.act(0, 1, 7);
    }

    /** All that has a limit is at it, but for SESSION; THE TEXT alone would be a TREATY. */
    static GooseVotes full() {
        GooseVotes x = new GooseVotes();
        int[] kinds = {TOLD, CLERK, OFFICIAL, CHIEF, NURSE, KEEPER};
        for (int i = 0; i < kinds.length; i++) {
            x.official(kinds[i], i, 9 - i);
        }
        for (int thing : new int[] {3, 0, 4, 2, 1}) {
            x.put(thing);
        }
        for (int i = 0; i < 5; i++) {
            x.see(i, 0, 1, i > 2);
        }
        for (int i = 0; i < 10; i++) {
            x.plan(3, i);
        }
        for (int i = 0; i < 8; i++) {
            x.book(1, 4, 5);
        }
        for (int i = 0; i < 6; i++) {
            feed(x, "quota " + (9 - i));
            x.treaty();
        }
        feed(x, hundredBytes());
        x.image();
        return x;
    }

    /** A TREATY as long as THE TEXT can be: 14 to each official for every THING. */
    static String hundredBytes() {
        StringBuilder text = new StringBuilder("like 14 p<09");
        while (text.length() < 100) {
            text.append("|p=7");
        }
        return text.toString();
    }
}
