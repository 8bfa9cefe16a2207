/** Promises 22 to 28: what is SEEN, the PLAN, the BOOK. */
public final class SeenPlanBookTest {
    public static void main(String[] args) {
        see();
        can();
        bases();
        plan();
        ends();
        triedApart();
        book();
        looked();
        Check.end("SeenPlanBookTest");
    }

    private static void see() {
        GooseVotes x = Check.withVotes(0, 1, 1);
        for (int i = 1; i <= 5; i++) {
            Check.due("22: see", i, x.see(1, 0, 4, true));
        }
        Check.due("22: a sixth", Check.FULL, x.see(0, 0, 1, true));
        Check.due("22: official 2", Check.NONE, x.see(2, 0, 0, true));
        Check.due("22: official -2", Check.NONE, x.see(-2, 0, 1, true));
        Check.due("22: thing 5", Check.NONE, x.see(0, 5, 1, true));
        Check.due("22: thing -1", Check.NONE, x.see(0, -1, 1, true));
        Check.due("22: other 5", Check.NONE, x.see(0, 5, 5, true));
        Check.due("22: other -1", Check.NONE, x.see(0, 1, -1, true));
        Check.due("22: one is both", Check.BAD, x.see(0, 1, 1, true));
        Check.due("22: five are kept", 5, x.count(3));
        Check.due("22: none then", 0, x.see(-1, 99, 99, false));
        Check.due("22: none is kept", 0, x.count(3));
        Check.due("22: anew", 1, x.see(0, 0, 1, true));
    }

    private static void can() {
        GooseVotes x = Check.withVotes(1, 1, 1);
        Check.due("23: nothing SEEN", 10, x.can(0, 0));
        Check.due("23: the least", 0, x.can(0, 1));
        x.see(0, 0, 1, true);
        Check.due("23: v above 0", 9, x.can(0, 0));
        Check.due("23: the least", 1, x.can(0, 1));
        Check.due("23: another's", 10, x.can(1, 0));
        x.base(0, 3, 9);
        x.see(0, 2, 3, false);
        Check.due("23: v 1 .. 4", 4, x.can(0, 0));
        Check.due("23: the least", 1, x.can(0, 1));
        x.see(0, 3, 0, false);
        Check.due("23: v 4", 1, x.can(0, 0));
        Check.due("23: the least", 4, x.can(0, 1));
        x.see(0, 0, 3, true);
        Check.due("23: by none", 0, x.can(0, 0));
        Check.due("23: the least of none", -5, x.can(0, 1));
        Check.due("23: nothing changed", 0, x.of(0, 1));
        Check.due("23: official 2", Check.NONE, x.can(2, 0));
        Check.due("23: official -1", Check.NONE, x.can(-1, 0));
        Check.due("23: what 2", Check.NONE, x.can(0, 2));
        Check.due("23: what -1", Check.NONE, x.can(0, -1));

        GooseVotes y = Check.withVotes(0, 1);
        Check.treaty(y, "like 9 x=0&(v=3|v=7)");
        y.see(0, 0, 1, true);
        y.away(0, true);
        Check.due("23: by the TREATY", 2, y.can(0, 0));
        Check.due("23: the least", 3, y.can(0, 1));
        GooseVotes z = Check.withVotes(4, 1);
        z.egg(6);
        z.see(0, 0, 1, false);
        Check.due("23: a CHIEF below EGG", 6, z.can(0, 0));
        z.see(-1, 0, 0, false);
        z.see(0, 0, 1, true);
        Check.due("23: a CHIEF from EGG on", 6, z.can(0, 1));
        Check.due("23: a CHIEF from EGG on", 4, z.can(0, 0));
    }

    private static void bases() {
        GooseVotes x = Check.withVotes(0, 1, 1);
        Check.due("24: nothing SEEN", 10, x.bases(1, 3, 0));
        Check.due("24: the least", 0, x.bases(1, 3, 1));
        x.see(1, 2, 3, true);
        Check.due("24: above 5", 4, x.bases(1, 2, 0));
        Check.due("24: the least", 6, x.bases(1, 2, 1));
        Check.due("24: below 5", 5, x.bases(1, 3, 0));
        Check.due("24: the least", 0, x.bases(1, 3, 1));
        Check.due("24: not by another THING", 0, x.bases(1, 4, 0));
        Check.due("24: the least of none", -5, x.bases(1, 4, 1));
        Check.due("24: another's", 10, x.bases(0, 4, 0));
        x.see(1, 2, 4, false);
        Check.due("24: not above and above", 0, x.bases(1, 2, 0));
        x.base(1, 4, 7);
        Check.due("24: 6 and 7", 2, x.bases(1, 2, 0));
        Check.due("24: the least", 6, x.bases(1, 2, 1));
        Check.due("24: nothing changed", 5, x.of(1, 12));
        Check.due("24: official 2", Check.NONE, x.bases(2, 0, 0));
        Check.due("24: official -1", Check.NONE, x.bases(-1, 0, 0));
        Check.due("24: thing 5", Check.NONE, x.bases(0, 5, 0));
        Check.due("24: thing -1", Check.NONE, x.bases(0, -1, 0));
        Check.due("24: what 2", Check.NONE, x.bases(0, 0, 2));
        Check.due("24: what -1", Check.NONE, x.bases(0, 0, -1));
    }

    private static void plan() {
        GooseVotes x = Check.withVotes(0, 1, 1);
        Check.due("25: a SESSION, n does not matter", 1, x.plan(0, Integer.MIN_VALUE));
        Check.due("25: AWAY", 2, x.plan(1, 1));
        Check.due("25: not AWAY", 3, x.plan(2, 0));
        Check.due("25: EGG 0", 4, x.plan(3, 0));
        Check.due("25: EGG 9", 5, x.plan(3, 9));
        for (int i = 6; i <= 10; i++) {
            Check.due("25: a row", i, x.plan(0, 0));
        }
        Check.due("25: an eleventh", Check.FULL, x.plan(0, 0));
        Check.due("25: what 4", Check.NONE, x.plan(4, 0));
        Check.due("25: what -2", Check.NONE, x.plan(-2, 0));
        Check.due("25: official 2 is AWAY", Check.NONE, x.plan(1, 2));
        Check.due("25: official -1 is AWAY", Check.NONE, x.plan(1, -1));
        Check.due("25: official 2 is not", Check.NONE, x.plan(2, 2));
        Check.due("25: official -1 is not", Check.NONE, x.plan(2, -1));
        Check.due("25: EGG 10", Check.BAD, x.plan(3, 10));
        Check.due("25: EGG -1", Check.BAD, x.plan(3, -1));
        Check.due("25: ten are kept", 10, x.count(4));
        Check.due("25: empty then", 0, x.plan(-1, 99));
        Check.due("25: none is kept", 0, x.count(4));
        Check.due("25: anew", 1, x.plan(0, 0));
    }

    private static void ends() {
        GooseVotes x = Check.ring();
        Check.due("26: no PLAN", 0, x.ends(0));
        Check.due("26: none is DONE", 0, x.ends(1));
        x.put(0);
        x.put(2);
        x.plan(0, 0);
        Check.due("26: EGG behind 2", 5, x.ends(0));
        Check.due("26: 2 is DONE", 4, x.ends(1));
        x.plan(1, 1);
        x.plan(1, 2);
        x.plan(3, 9);
        Check.due("26: EGG is set", 9, x.ends(0));
        x.plan(0, 0);
        Check.due("26: EGG behind 0", 2, x.ends(0));
        Check.due("26: 0 and 2 are DONE", 5, x.ends(1));
        x.plan(2, 1);
        x.plan(2, 2);
        x.plan(0, 0);
        Check.due("26: EGG behind 2 again", 7, x.ends(0));
        x.plan(-1, 0);
        x.plan(3, 0);
        x.plan(1, 0);
        x.plan(0, 2);
        Check.due("26: EGG behind 2 by the others", 5, x.ends(0));
        x.away(2, true);
        x.plan(1, 1);
        x.plan(2, 0);
        x.plan(0, 0);
        Check.due("26: EGG behind 0 by one that is back", 8, x.ends(0));
        x.away(2, false);
        Check.due("26: nothing changed: SESSION", 0, x.told(0));
        Check.due("26: nothing changed: EGG", 0, x.told(2));
        Check.due("26: nothing changed: AWAY", 0, x.of(1, 3));
        Check.due("26: nothing changed: DONE", 0, x.told(12));
        x.put(-1);
        x.put(4);
        x.pass(1);
        x.put(-1);
        Check.due("26: what was DONE before", 16, x.ends(1));
        Check.due("26: what 2", Check.NONE, x.ends(2));
        Check.due("26: what -1", Check.NONE, x.ends(-1));
    }

    /** What is tried for CAN and BASES leaves nothing behind in what is tried for ON and ENDS. */
    private static void triedApart() {
        GooseVotes x = Check.withVotes(1, 1);
        x.put(1);
        x.put(0);
        x.plan(0, 0);
        x.see(0, 0, 1, true);
        Check.due("23: v above 0", 9, x.can(0, 0));
        Check.due("24: BASE above 5", 4, x.bases(0, 0, 0));
        Check.due("26: v and BASE are its own again", 2, x.ends(1));
        Check.due("15: v and BASE are its own again", 1, x.on(1, 11));
        GooseVotes y = new GooseVotes();
        y.official(1, 1, 1);
        y.put(1);
        y.put(0);
        y.see(0, 1, 0, true);
        Check.due("23: by none", 0, y.can(0, 0));
        Check.due("24: BASE below 4", 4, y.bases(0, 0, 0));
        Check.due("15: v and BASE are its own again", 1, y.on(1, 10));
    }

    private static void book() {
        GooseVotes x = Check.withVotes(0, 1, 1);
        for (int i = 1; i <= 8; i++) {
            Check.due("27: a row", i, x.book(1, 4, i));
        }
        Check.due("27: a ninth", Check.FULL, x.book(0, 0, 0));
        Check.due("27: official 2", Check.NONE, x.book(2, 0, 10));
        Check.due("27: official -2", Check.NONE, x.book(-2, 0, 0));
        Check.due("27: thing 5", Check.NONE, x.book(0, 5, 10));
        Check.due("27: thing -1", Check.NONE, x.book(0, -1, 0));
        Check.due("27: base 10", Check.BAD, x.book(0, 0, 10));
        Check.due("27: base -1", Check.BAD, x.book(0, 0, -1));
        Check.due("27: eight are kept", 8, x.count(5));
        Check.due("27: empty then", 0, x.book(-1, 99, 99));
        Check.due("27: none is kept", 0, x.count(5));
        Check.due("27: anew", 1, x.book(0, 0, 0));
    }

    private static void looked() {
        GooseVotes x = Check.withVotes(0, 1, 1);
        Check.due("28: an empty BOOK", -5, x.looked());
        x.book(0, 0, 5);
        x.book(1, 3, 5);
        Check.due("28: all is so", -5, x.looked());
        x.book(1, 4, 6);
        Check.due("28: the third is otherwise", 2, x.looked());
        x.base(0, 3, 1);
        x.base(1, 0, 1);
        Check.due("28: other BASES do not matter", 2, x.looked());
        x.base(1, 3, 4);
        Check.due("28: the second is otherwise", 1, x.looked());
        x.base(0, 0, 9);
        Check.due("28: the first is otherwise", 0, x.looked());
    }
}
