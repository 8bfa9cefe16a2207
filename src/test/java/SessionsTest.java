/** Promises 12 to 17: what is told, votes for and against, SESSIONS, agendas, BRIBES. */
public final class SessionsTest {
    public static void main(String[] args) {
        told();
        against();
        pass();
        passToTheEnd();
        on();
        agenda();
        bribe();
        bribeOfSeveral();
        Check.end("SessionsTest");
    }

    private static void told() {
        GooseVotes x = Check.ring();
        Check.due("12: by an empty AGENDA", -5, x.told(3));
        Check.due("12: FIRST in a ring", -5, x.told(4));
        Check.due("12: RINGS", 1, x.told(5));
        Check.due("12: LAST", 24, x.told(6));
        int[][] rowsAndDone = {{0, 1, 0}, {1, 0, 0}, {1, 2, 1}, {2, 0, 2}, {3, 4, 3}, {4, 3, 3}};
        for (int[] row : rowsAndDone) {
            x.put(-1);
            x.put(row[0]);
            x.put(row[1]);
            Check.due("12: by " + row[0] + ", " + row[1], row[2], x.told(3));
        }
        x.put(-1);
        for (int thing : new int[] {3, 0, 1, 4, 2}) {
            x.put(thing);
        }
        Check.due("12: by five", 2, x.told(3));
        x.away(1, true);
        Check.due("12: no ring then", 0, x.told(5));
        Check.due("12: none FIRST then", -5, x.told(4));
        x.away(2, true);
        Check.due("12: FIRST of the one that is left", 0, x.told(4));
        Check.due("12: LAST then", 30, x.told(6));
        x.away(1, false);
        x.away(0, true);
        Check.due("12: FIRST of another one", 1, x.told(4));
        Check.treaty(x, "quota 0;quota 45");
        x.egg(8);
        Check.due("12: SESSION", 0, x.told(0));
        Check.due("12: QUOTA", 45, x.told(1));
        Check.due("12: EGG", 8, x.told(2));
        x.pass(2);
        Check.due("12: SESSION", 2, x.told(0));
        for (int thing = 0; thing < 5; thing++) {
            Check.due("12: DONE of " + thing, thing == 3 ? 2 : 0, x.told(10 + thing));
        }
        for (int what : new int[] {-1, 7, 9, 15, Integer.MIN_VALUE, Integer.MAX_VALUE, Integer.MIN_VALUE + 11}) {
            Check.due("12: told(" + what + ")", Check.NONE, x.told(what));
        }
        manyRings();
        GooseVotes y = Check.withVotes(0, 1);
        Check.treaty(y, "loathe 1 x=0");
        Check.due("12: 0 is LAST", 1, y.told(6));
    }

    /** 0 BEATS 1 and 2, 1 BEATS 2 and 3, 2 BEATS 3 and 4, 3 BEATS 4 and 0, 4 BEATS 0 and 1: five RINGS. */
    private static void manyRings() {
        GooseVotes x = Check.withVotes(0, 1, 1, 1, 1, 1);
        for (int official = 0; official < 5; official++) {
            for (int thing = 0; thing < 5; thing++) {
                x.base(official, thing, 9 - (thing - official + 5) % 5);
            }
        }
        for (int thing = 0; thing < 5; thing++) {
            Check.due("12: it BEATS the next", 1, x.against(thing, (thing + 1) % 5, 1));
            Check.due("12: it BEATS the one but next", 1, x.against(thing, (thing + 2) % 5, 1));
        }
        Check.due("12: five RINGS", 5, x.told(5));
        Check.due("12: none is LAST", 0, x.told(6));
    }

    private static void against() {
        GooseVotes x = Check.withVotes(0, 4, 3, 2);
        Check.bases(x, 0, 6, 5, 5, 5, 5);
        Check.bases(x, 1, 5, 6, 5, 5, 5);
        Check.bases(x, 2, 5, 6, 5, 4, 5);
        Check.due("13: FOR 0 against 1", 4, x.against(0, 1, 0));
        Check.due("13: FOR 1 against 0", 5, x.against(1, 0, 0));
        Check.due("13: FOR 1 against 2", 5, x.against(1, 2, 0));
        Check.due("13: FOR 2 against 4, liked alike", 0, x.against(2, 4, 0));
        Check.due("13: BEATS", 1, x.against(1, 0, 1));
        Check.due("13: is beaten", 0, x.against(0, 1, 1));
        Check.due("13: BEATS none liked alike", 0, x.against(2, 4, 1));
        x.away(2, true);
        Check.due("13: FOR, one AWAY", 3, x.against(1, 0, 0));
        Check.due("13: BEATS, one AWAY", 1, x.against(0, 1, 1));
        Check.treaty(x, "quota 1");
        Check.due("13: QUOTA more are not more than QUOTA", 0, x.against(0, 1, 1));
        x.votes(0, 5);
        Check.due("13: more than QUOTA more", 1, x.against(0, 1, 1));
        Check.due("13: less than QUOTA more", 0, x.against(1, 0, 1));
        Check.due("13: thing 5", Check.NONE, x.against(5, 0, 0));
        Check.due("13: thing -1", Check.NONE, x.against(-1, 0, 0));
        Check.due("13: other 5", Check.NONE, x.against(0, 5, 0));
        Check.due("13: other -1", Check.NONE, x.against(0, -1, 1));
        Check.due("13: both 5", Check.NONE, x.against(5, 5, 0));
        Check.due("13: what 2", Check.NONE, x.against(0, 1, 2));
        Check.due("13: what ahead of both", Check.NONE, x.against(0, 0, -1));
        Check.due("13: one is both", Check.BAD, x.against(3, 3, 0));
    }

    private static void pass() {
        GooseVotes x = Check.ring();
        Check.due("14: an empty AGENDA", 3, x.pass(3));
        Check.due("14: EGG stays", 0, x.told(2));
        Check.due("14: none is DONE", 0, x.ends(1));
        x.put(4);
        Check.due("14: SESSION", 4, x.pass(1));
        Check.due("14: EGG", 7, x.told(2));
        Check.due("14: SESSION", 5, x.pass(1));
        Check.due("14: EGG modulo 10", 4, x.told(2));
        x.put(2);
        Check.due("14: SESSION", 65, x.pass(60));
        Check.due("14: DONE of 4", 2, x.told(14));
        Check.due("14: DONE of 2", 60, x.told(12));
        Check.due("14: EGG", 4, x.told(2));
        Check.due("14: -1", Check.BAD, x.pass(-1));
        Check.due("14: 61", Check.BAD, x.pass(61));
        Check.due("14: 0", 65, x.pass(0));
        Check.due("14: DONE of 2 stays", 60, x.told(12));

        GooseVotes y = Check.withVotes(0, 1);
        Check.treaty(y, "like 9 s=1&x=1;like 9 g=7&x=2");
        y.put(0);
        y.put(1);
        y.put(2);
        y.pass(3);
        Check.due("14: DONE of 0 in SESSION 0", 1, y.told(10));
        Check.due("14: DONE of 1 in SESSION 1", 1, y.told(11));
        Check.due("14: DONE of 2 by EGG 7", 1, y.told(12));
        Check.due("14: EGG", 2, y.told(2));
    }

    private static void passToTheEnd() {
        GooseVotes x = new GooseVotes();
        x.put(2);
        for (int i = 1; i <= 166; i++) {
            x.pass(60);
        }
        Check.due("14: up to 9960", 9960, x.told(0));
        Check.due("14: above 9999", Check.STATE, x.pass(40));
        Check.due("14: BAD ahead of STATE", Check.BAD, x.pass(61));
        Check.due("14: nothing changed", 9960, x.told(0));
        Check.due("14: up to 9999", 9999, x.pass(39));
        Check.due("14: no more", Check.STATE, x.pass(1));
        Check.due("14: none is fine", 9999, x.pass(0));
        Check.due("14: DONE", 9999, x.told(12));
        Check.due("15: DONE goes on beyond 9999", 10059, x.on(60, 12));
        Check.due("15: EGG goes on", (x.told(2) + 5 * 60) % 10, x.on(60, 0));
        Check.treaty(x, "like 9 s=0");
        Check.due("15: SESSION goes on beyond 9999", 2, x.on(1, 1));
        x.plan(0, 0);
        x.plan(0, 0);
        Check.due("26: SESSIONS go on beyond 9999", 4, x.ends(1));
    }

    private static void on() {
        GooseVotes x = Check.withVotes(0, 1);
        Check.due("15: by an empty AGENDA", -5, x.on(9, 1));
        Check.due("15: EGG by an empty AGENDA", 0, x.on(9, 0));
        Check.treaty(x, "like 9 s=1&x=1");
        x.put(0);
        x.put(1);
        int[] eggs = {0, 3, 7, 0, 3};
        int[] done = {0, 1, 0, 0, 0};
        int[] zeros = {0, 1, 1, 2, 3};
        int[] ones = {0, 0, 1, 1, 1};
        for (int n = 0; n < 5; n++) {
            Check.due("15: EGG on " + n, eggs[n], x.on(n, 0));
            Check.due("15: DONE then on " + n, done[n], x.on(n, 1));
            Check.due("15: DONE of 0 on " + n, zeros[n], x.on(n, 10));
            Check.due("15: DONE of 1 on " + n, ones[n], x.on(n, 11));
            Check.due("15: DONE of 4 on " + n, 0, x.on(n, 14));
        }
        Check.due("15: nothing changed", 0, x.told(0));
        Check.due("15: none is DONE", 0, x.told(10));
        Check.due("15: 60", 54, x.on(60, 10));
        Check.due("15: 61", Check.BAD, x.on(61, 0));
        Check.due("15: -1", Check.BAD, x.on(-1, 14));
        for (int what : new int[] {-1, 2, 9, 15, Integer.MIN_VALUE, Integer.MAX_VALUE}) {
            Check.due("15: what " + what + " ahead of n", Check.NONE, x.on(61, what));
        }
    }

    private static void dueAgenda(GooseVotes x, int thing, int... row) {
        for (int k = 0; k < 5; k++) {
            Check.due("16: AGENDA FOR " + thing + ", " + k, row.length == 0 ? -5 : row[k], x.agenda(thing, k));
        }
    }

    private static void agenda() {
        GooseVotes x = new GooseVotes();
        dueAgenda(x, 0, 0, 1, 2, 3, 4);
        dueAgenda(x, 2, 2, 0, 1, 3, 4);
        dueAgenda(x, 4, 4, 0, 1, 2, 3);
        GooseVotes y = Check.ring();
        dueAgenda(y, 0, 1, 2, 0, 3, 4);
        dueAgenda(y, 1, 0, 2, 1, 3, 4);
        dueAgenda(y, 2, 0, 1, 2, 3, 4);
        dueAgenda(y, 3);
        dueAgenda(y, 4);
        Check.due("16: thing 5", Check.NONE, y.agenda(5, 0));
        Check.due("16: thing -1", Check.NONE, y.agenda(-1, 0));
        Check.due("16: k 5", Check.NONE, y.agenda(0, 5));
        Check.due("16: k -1 of none", Check.NONE, y.agenda(3, -1));
    }

    private static void bribe() {
        GooseVotes x = new GooseVotes();
        Check.due("17: no OFFICIALS", -5, x.bribe(0));
        x = Check.ring();
        Check.due("17: all but 0", 6, x.bribe(0));
        Check.due("17: all but 1", 5, x.bribe(1));
        Check.due("17: all but 2", 3, x.bribe(2));
        Check.due("17: by none", -5, x.bribe(3));
        x.away(1, true);
        Check.due("17: one is AWAY already", 4, x.bribe(0));
        Check.due("17: by none then", -5, x.bribe(1));
        x.away(2, true);
        Check.due("17: it BEATS all already", 0, x.bribe(0));
        Check.due("17: nobody changed", 0, x.of(0, 3));
        Check.treaty(x, "quota 1");
        Check.due("17: QUOTA", -5, x.bribe(0));
        Check.due("17: thing 5", Check.NONE, x.bribe(5));
        Check.due("17: thing -1", Check.NONE, x.bribe(-1));
    }

    private static void bribeOfSeveral() {
        GooseVotes all = Check.withVotes(0, 1, 1, 1, 1, 1, 1);
        Check.treaty(all, "like 1 x=0&p=2;like 1 x=1&!p=2");
        Check.due("17: all others of six", 59, all.bribe(0));
        GooseVotes x = Check.withVotes(0, 1, 1, 1, 1);
        Check.bases(x, 0, 9, 8, 0, 0, 0);
        Check.bases(x, 1, 9, 8, 0, 0, 0);
        Check.bases(x, 2, 8, 9, 0, 0, 0);
        Check.bases(x, 3, 8, 9, 0, 0, 0);
        Check.due("17: the least of two for 0", 4, x.bribe(0));
        Check.due("17: the least of two for 1", 1, x.bribe(1));
        GooseVotes y = Check.withVotes(0, 2, 2, 4, 5);
        Check.bases(y, 0, 8, 9, 0, 0, 0);
        Check.bases(y, 1, 8, 9, 0, 0, 0);
        Check.bases(y, 2, 8, 9, 0, 0, 0);
        Check.bases(y, 3, 9, 8, 0, 0, 0);
        Check.due("17: one rather than the two with less bits", 4, y.bribe(0));
    }
}
