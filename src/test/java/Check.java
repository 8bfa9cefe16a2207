/** Counts the answers that are not as due, and ends the run by it. */
final class Check {
    static final int NONE = -1, BAD = -2, STATE = -3, FULL = -4, NOT_ANY = -5, NONE_LOW = -10001;
    static final int NOTHING = -11, CAST = -12, PLACE = -13, SIZE = -14;
    static final long NO = Long.MIN_VALUE;
    /** Numbers that are far from any that is told. */
    static final int[] FAR = {Integer.MIN_VALUE, Integer.MAX_VALUE, -2, 1000};

    private static int wrong = 0;
    private static int looked = 0;

    private Check() {
    }

    static void due(String call, long want, long got) {
        looked++;
        if (want != got) {
            wrong++;
            System.out.println(call + " answered " + got + ", due is " + want);
        }
    }

    static void end(String test) {
        System.out.println(test + ": " + (looked - wrong) + " of " + looked + " answers as due");
        if (wrong > 0 || looked == 0) {
            System.exit(1);
        }
    }

    /** Feeds a text sign by sign. */
    static void feed(GooseVotes x, String text) {
        int had = x.count(6);
        for (int i = 0; i < text.length(); i++) {
            due("feed(" + text.charAt(i) + ")", had + i + 1, x.feed(text.charAt(i)));
        }
    }

    static int treaty(GooseVotes x, String text) {
        feed(x, text);
        return x.treaty();
    }

    /** An object with OFFICIALS of one KIND, v 0, and VOTES as told. */
    static GooseVotes withVotes(int kind, int... votes) {
        GooseVotes x = new GooseVotes();
        for (int n : votes) {
            x.official(kind, 0, n);
        }
        return x;
    }

    /** Sets what an OFFICIAL of KIND 0 likes: its BASE for the five THINGS. */
    static void bases(GooseVotes x, int official, int... bases) {
        for (int thing = 0; thing < bases.length; thing++) {
            x.base(official, thing, bases[thing]);
        }
    }

    /** Three OFFICIALS of one vote each, by whom 0 BEATS 1, 1 BEATS 2, 2 BEATS 0, and these all BEAT 3, that 4. */
    static GooseVotes ring() {
        GooseVotes x = withVotes(0, 1, 1, 1);
        bases(x, 0, 9, 8, 7, 1, 0);
        bases(x, 1, 7, 9, 8, 1, 0);
        bases(x, 2, 8, 7, 9, 1, 0);
        return x;
    }
}
