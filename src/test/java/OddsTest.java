/** Promises 18 to 21: fractions. */
public final class OddsTest {
    public static void main(String[] args) {
        odds();
        power();
        pivot();
        withoutVotes();
        mean();
        Check.end("OddsTest");
    }

    private static void dueFraction(String what, long above, long below, long gotAbove, long gotBelow) {
        Check.due(what + " above", above, gotAbove);
        Check.due(what + " below", below, gotBelow);
    }

    private static void dueOdds(GooseVotes x, int thing, long above, long below) {
        dueFraction("18: ODDS of " + thing, above, below, x.odds(thing, 0), x.odds(thing, 1));
    }

    private static void duePower(GooseVotes x, int official, long above, long below) {
        dueFraction("19: POWER of " + official, above, below, x.power(official, 0), x.power(official, 1));
    }

    private static void duePivot(GooseVotes x, int official, long above, long below) {
        dueFraction("20: PIVOT of " + official, above, below, x.pivot(official, 0), x.pivot(official, 1));
    }

    private static void dueMean(GooseVotes x, int thing, long above, long below) {
        dueFraction("21: MEAN of " + thing, above, below, x.mean(thing, 0), x.mean(thing, 1));
    }

    private static void odds() {
        GooseVotes x = new GooseVotes();
        for (int thing = 0; thing < 5; thing++) {
            dueOdds(x, thing, 1, 5);
        }
        x = Check.ring();
        for (int thing = 0; thing < 5; thing++) {
            dueOdds(x, thing, thing < 3 ? 1 : 0, thing < 3 ? 3 : 1);
        }
        GooseVotes y = Check.withVotes(0, 1, 1);
        Check.bases(y, 0, 6, 4, 5, 5, 5);
        Check.bases(y, 1, 4, 4, 5, 5, 5);
        Check.due("18: only 0 BEATS 1", 1, y.against(0, 1, 1));
        y.votes(1, 0);
        Check.treaty(y, "like 1 p=0&x>1;like 1 p=0&x=0;quota 1");
        dueOdds(y, 1, 1, 5);
        y.votes(0, 2);
        Check.due("18: 0 BEATS 1", 1, y.against(0, 1, 1));
        Check.due("18: 0 BEATS 2", 1, y.against(0, 2, 1));
        dueOdds(y, 0, 1, 1);
        dueOdds(y, 1, 0, 1);
        GooseVotes z = Check.withVotes(0, 1);
        Check.treaty(z, "loathe 1 x>1");
        dueOdds(z, 0, 1, 2);
        dueOdds(z, 1, 1, 2);
        dueOdds(z, 4, 0, 1);
        Check.due("18: thing 5", Check.NO, z.odds(5, 0));
        Check.due("18: thing -1", Check.NO, z.odds(-1, 1));
        Check.due("18: part 2", Check.NO, z.odds(0, 2));
        Check.due("18: part -1", Check.NO, z.odds(0, -1));
    }

    private static void power() {
        GooseVotes x = Check.withVotes(0, 3, 2, 1, 1);
        duePower(x, 0, 3, 4);
        duePower(x, 1, 1, 4);
        duePower(x, 2, 1, 4);
        duePower(x, 3, 1, 4);
        x.away(3, true);
        duePower(x, 0, 3, 4);
        duePower(x, 1, 1, 4);
        duePower(x, 2, 1, 4);
        duePower(x, 3, 0, 1);
        GooseVotes y = Check.withVotes(0, 9);
        duePower(y, 0, 1, 1);
        y.official(0, 0, 9);
        duePower(y, 1, 1, 2);
        Check.due("19: official 2", Check.NO, y.power(2, 0));
        Check.due("19: official -1", Check.NO, y.power(-1, 0));
        Check.due("19: part 2", Check.NO, y.power(0, 2));
        Check.due("19: part -1", Check.NO, y.power(0, -1));
    }

    private static void pivot() {
        GooseVotes x = Check.withVotes(0, 3, 2, 1, 1);
        duePivot(x, 0, 1, 2);
        duePivot(x, 1, 1, 6);
        duePivot(x, 2, 1, 6);
        duePivot(x, 3, 1, 6);
        x.away(3, true);
        duePivot(x, 0, 2, 3);
        duePivot(x, 1, 1, 6);
        duePivot(x, 2, 1, 6);
        duePivot(x, 3, 0, 1);
        GooseVotes y = Check.withVotes(0, 9);
        duePivot(y, 0, 1, 1);
        y.away(0, true);
        duePivot(y, 0, 0, 1);
        y.away(0, false);
        y.official(0, 0, 9);
        duePivot(y, 0, 1, 2);
        duePivot(y, 1, 1, 2);
        GooseVotes six = Check.withVotes(0, 1, 1, 1, 1, 1, 1);
        for (int official = 0; official < 6; official++) {
            duePivot(six, official, 1, 6);
        }
        Check.due("20: official 2", Check.NO, y.pivot(2, 0));
        Check.due("20: official -1", Check.NO, y.pivot(-1, 0));
        Check.due("20: part 2", Check.NO, y.pivot(0, 2));
        Check.due("20: part -1", Check.NO, y.pivot(0, -1));
    }

    private static void withoutVotes() {
        GooseVotes x = Check.withVotes(0, 0, 0, 5);
        x.away(2, true);
        duePower(x, 0, 0, 1);
        duePivot(x, 1, 0, 1);
        Check.due("21: no VOTES", Check.NO, x.mean(0, 0));
        Check.due("21: no VOTES", Check.NO, x.mean(0, 1));
        x.away(2, false);
        duePower(x, 2, 1, 1);
        duePivot(x, 2, 1, 1);
        duePower(x, 0, 0, 1);
    }

    private static void mean() {
        GooseVotes none = new GooseVotes();
        Check.due("21: no OFFICIALS", Check.NO, none.mean(0, 0));
        GooseVotes x = Check.withVotes(0, 3, 2, 0);
        Check.bases(x, 0, 9, 1, 0, 4, 6);
        Check.bases(x, 1, 4, 0, 0, 4, 1);
        Check.bases(x, 2, 9, 9, 9, 9, 9);
        dueMean(x, 0, 7, 1);
        dueMean(x, 1, 3, 5);
        dueMean(x, 2, 0, 1);
        dueMean(x, 3, 4, 1);
        dueMean(x, 4, 4, 1);
        x.votes(1, 3);
        dueMean(x, 0, 13, 2);
        x.away(1, true);
        dueMean(x, 0, 9, 1);
        Check.treaty(x, "loathe 10 x=0;loathe 8 p=1");
        dueMean(x, 0, -1, 1);
        x.away(1, false);
        dueMean(x, 0, -15, 2);
        Check.due("21: thing 5", Check.NO, x.mean(5, 0));
        Check.due("21: thing -1", Check.NO, x.mean(-1, 0));
        Check.due("21: part 2", Check.NO, x.mean(0, 2));
        Check.due("21: part -1", Check.NO, x.mean(0, -1));
    }
}
