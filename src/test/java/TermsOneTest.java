/** The sentences of "Terms", section 1, that name a boundary, but for THE TEXT and what is read from it: one test each. */
public final class TermsOneTest {
    private static final int OFFICIAL = 0, CLERK = 1, KEEPER = 2, RADICAL = 3, CHIEF = 4, NURSE = 5, TOLD = 6;

    public static void main(String[] args) {
        thingsAre0To4();
        doneIs0AtFirst();
        doneIs9999AtMost();
        officialsAre0To5();
        kindsAre0To6();
        vIs0To9();
        votesAre0To9();
        basesAre0To9And5AtFirst();
        awayIsNotAtFirst();
        agendaHasNoneTwiceAndIsEmptyAtFirst();
        eggIs0To9And0AtFirst();
        sessionIs0AtFirst();
        sumMayBeBelow0();
        clerkAddsVIfEven();
        keeperCutsTowardZero();
        radicalIs0Less();
        chiefIs0IfEggIsMore();
        nurseAddsEggIfTheThingIs0();
        rowIsOfFour();
        rowGoesRoundBy4();
        forIsOfThoseWhoLikeMore();
        forIsOfThoseNotAway();
        beatsByMoreThanQuota();
        firstOfAnAgendaHolds();
        sessionOfAnEmptyAgenda();
        eggGoesRoundBy10();
        Check.end("TermsOneTest");
    }

    private static GooseVotes one(int kind, int v) {
        GooseVotes x = new GooseVotes();
        x.official(kind, v, 1);
        return x;
    }

    private static void dueLikes(String sentence, GooseVotes x, int... likes) {
        for (int thing = 0; thing < likes.length; thing++) {
            Check.due(sentence + ": " + thing, likes[thing], x.of(0, 20 + thing));
        }
    }

    private static void thingsAre0To4() {
        String is = "THINGS to be done are 0 .. 4";
        for (int thing : new int[] {0, 4}) {
            int other = 4 - thing;
            GooseVotes x = Check.withVotes(OFFICIAL, 1);
            Check.due(is + ": base", 5, x.base(0, thing, 6));
            Check.due(is + ": of", 6, x.of(0, 10 + thing));
            Check.due(is + ": put", 1, x.put(thing));
            Check.due(is + ": told", 0, x.told(10 + thing));
            Check.due(is + ": against", 1, x.against(thing, other, 0));
            Check.due(is + ": against, the other", 0, x.against(other, thing, 0));
            Check.due(is + ": on", 1, x.on(1, 10 + thing));
            Check.due(is + ": agenda", 0, x.agenda(thing, 0));
            Check.due(is + ": the last of an agenda", 4, x.agenda(thing, 4));
            Check.due(is + ": bribe", 0, x.bribe(thing));
            Check.due(is + ": odds", 1, x.odds(thing, 0));
            Check.due(is + ": mean", 6, x.mean(thing, 0));
            Check.due(is + ": see", 1, x.see(0, thing, other, true));
            Check.due(is + ": see, the other", 2, x.see(0, other, thing, false));
            Check.due(is + ": bases", 4, x.bases(0, thing, 0));
            Check.due(is + ": book", 1, x.book(0, thing, 6));
        }
        Same off = new Same(is, Sample::some);
        for (int thing : new int[] {-1, 5}) {
            off.due(Check.NONE, "base", 0, thing, 5);
            off.due(Check.NONE_LOW, "of", 0, 10 + thing);
            off.due(Check.NONE_LOW, "of", 0, 20 + thing);
            off.due(Check.NONE, "told", 10 + thing);
            off.due(Check.NONE, "against", thing, 0, 0);
            off.due(Check.NONE, "against", 0, thing, 0);
            off.due(Check.NONE, "on", 1, 10 + thing);
            off.due(Check.NONE, "agenda", thing, 0);
            off.due(Check.NONE, "agenda", 0, thing);
            off.due(Check.NONE, "bribe", thing);
            off.due(Check.NO, "odds", thing, 0);
            off.due(Check.NO, "mean", thing, 0);
            off.due(Check.NONE, "see", 0, thing, 0, true);
            off.due(Check.NONE, "see", 0, 0, thing, true);
            off.due(Check.NONE, "bases", 0, thing, 0);
            off.due(Check.NONE, "book", 0, thing, 5);
        }
        off.due(Check.NONE, "put", 5);
    }

    private static void doneIs0AtFirst() {
        GooseVotes x = new GooseVotes();
        for (int thing = 0; thing < 5; thing++) {
            Check.due("DONE (0 at first): " + thing, 0, x.told(10 + thing));
            Check.due("DONE (0 at first), on 0: " + thing, 0, x.on(0, 10 + thing));
        }
        Check.due("DONE (0 at first): none above 0", 0, x.ends(1));
    }

    private static void doneIs9999AtMost() {
        GooseVotes x = new GooseVotes();
        x.put(4);
        for (int i = 0; i < 166; i++) {
            x.pass(60);
        }
        Check.due("DONE (0 .. 9999)", 9998, x.pass(38));
        Check.due("DONE (0 .. 9999): one below", 9998, x.told(14));
        Check.due("DONE (0 .. 9999)", 9999, x.pass(1));
        Check.due("DONE (0 .. 9999): the most", 9999, x.told(14));
        Check.due("DONE (0 .. 9999): no more", Check.STATE, x.pass(1));
        Check.due("DONE (0 .. 9999): no more", 9999, x.told(14));
    }

    private static void officialsAre0To5() {
        String is = "OFFICIALS 0 .. 5, as they come";
        GooseVotes x = new GooseVotes();
        for (int count = 0; count <= 6; count++) {
            Check.due(is + ": one below the first", Check.NONE_LOW, x.of(-1, 0));
            Check.due(is + ": one above the last", Check.NONE_LOW, x.of(count, 0));
            Check.due(is + ": votes of one above", Check.NONE, x.votes(count, 0));
            if (count < 6) {
                Check.due(is, count, x.official(count, 9 - count, count));
                Check.due(is + ": its KIND", count, x.of(count, 0));
            }
        }
        Check.due(is + ": a seventh", Check.FULL, x.official(0, 0, 0));
        for (int official = 0; official < 6; official++) {
            Check.due(is + ": they stay", 9 - official, x.of(official, 1));
        }
    }

    private static void kindsAre0To6() {
        String is = "KINDS: 0 OFFICIAL .. 6 TOLD";
        Check.due(is + ": the first", 0, one(0, 0).of(0, 0));
        Check.due(is + ": the last", 6, one(6, 0).of(0, 0));
        Same off = new Same(is, Sample::some);
        off.due(Check.NONE, "official", -1, 0, 0);
        off.due(Check.NONE, "official", 7, 0, 0);
        off.due(Check.BAD, "taken", 0, -1);
        off.due(Check.BAD, "taken", 0, 7);
    }

    private static void vIs0To9() {
        String is = "a number v (0 .. 9)";
        Check.due(is + ": the least", 0, one(0, 0).of(0, 1));
        Check.due(is + ": the most", 9, one(0, 9).of(0, 1));
        Same off = new Same(is, Sample::some);
        off.due(Check.BAD, "official", 0, -1, 0);
        off.due(Check.BAD, "official", 0, 10, 0);
    }

    private static void votesAre0To9() {
        String is = "VOTES (0 .. 9)";
        GooseVotes x = Check.withVotes(OFFICIAL, 0, 9);
        Check.due(is + ": the least", 0, x.of(0, 2));
        Check.due(is + ": the most", 9, x.of(1, 2));
        Check.due(is + ": to the most", 0, x.votes(0, 9));
        Check.due(is + ": to the least", 9, x.votes(1, 0));
        Check.due(is + ": the most", 9, x.of(0, 2));
        Check.due(is + ": the least", 0, x.of(1, 2));
        Same off = new Same(is, Sample::some);
        off.due(Check.BAD, "official", 0, 0, -1);
        off.due(Check.BAD, "official", 0, 0, 10);
        off.due(Check.BAD, "votes", 0, -1);
        off.due(Check.BAD, "votes", 0, 10);
    }

    private static void basesAre0To9And5AtFirst() {
        String is = "a BASE for each THING (0 .. 9; 5 at first)";
        GooseVotes x = one(OFFICIAL, 0);
        for (int thing = 0; thing < 5; thing++) {
            Check.due(is + ": at first", 5, x.of(0, 10 + thing));
            Check.due(is + ": to the least", 5, x.base(0, thing, 0));
            Check.due(is + ": to the most", 0, x.base(0, thing, 9));
            Check.due(is + ": the most", 9, x.of(0, 10 + thing));
        }
        Same off = new Same(is, Sample::some);
        off.due(Check.BAD, "base", 0, 0, -1);
        off.due(Check.BAD, "base", 0, 0, 10);
        off.due(Check.BAD, "book", 0, 0, -1);
        off.due(Check.BAD, "book", 0, 0, 10);
    }

    private static void awayIsNotAtFirst() {
        for (int kind = OFFICIAL; kind <= TOLD; kind++) {
            GooseVotes x = one(kind, 0);
            Check.due("AWAY, or not (not at first)", 0, x.of(0, 3));
            Check.due("AWAY, or not (not at first): was", 0, x.away(0, true));
        }
    }

    private static void agendaHasNoneTwiceAndIsEmptyAtFirst() {
        String is = "THE AGENDA: THINGS, none twice (empty at first)";
        GooseVotes x = new GooseVotes();
        Check.due(is + ": empty", 0, x.count(2));
        Check.due(is + ": by an empty one", -5, x.told(3));
        Check.due(is + ": the first", 1, x.put(0));
        Check.due(is + ": twice", Check.STATE, x.put(0));
        Check.due(is + ": another", 2, x.put(4));
        Check.due(is + ": the first twice", Check.STATE, x.put(0));
        Check.due(is + ": the last twice", Check.STATE, x.put(4));
        Check.due(is + ": two are on it", 2, x.count(2));
        Same off = new Same(is, Sample::full);
        for (int thing = 0; thing < 5; thing++) {
            off.due(Check.STATE, "put", thing);
        }
    }

    private static void eggIs0To9And0AtFirst() {
        String is = "EGG: 0 .. 9 (0 at first)";
        GooseVotes x = new GooseVotes();
        Check.due(is + ": at first", 0, x.told(2));
        Check.due(is + ": to the most", 0, x.egg(9));
        Check.due(is + ": the most", 9, x.told(2));
        Check.due(is + ": to the least", 9, x.egg(0));
        Check.due(is + ": the least", 0, x.told(2));
        Same off = new Same(is, Sample::some);
        off.due(Check.BAD, "egg", -1);
        off.due(Check.BAD, "egg", 10);
    }

    private static void sessionIs0AtFirst() {
        GooseVotes x = new GooseVotes();
        Check.due("SESSION: 0 at first", 0, x.told(0));
        Check.due("SESSION: 0 at first, none goes", 0, x.pass(0));
        Check.due("SESSION: 0 at first, one goes", 1, x.pass(1));
    }

    /** The least and the most that ten clauses of THE TEXT can make of it. */
    private static void sumMayBeBelow0() {
        String is = "SUM (may be below 0)";
        GooseVotes x = one(OFFICIAL, 0);
        Check.bases(x, 0, 0, 1, 2, 9, 9);
        Check.treaty(x, "loathe 1 x<4;like 1 x=4");
        dueLikes(is, x, -1, 0, 1, 8, 10);
        GooseVotes y = one(OFFICIAL, 0);
        Check.bases(y, 0, 0, 9);
        Check.treaty(y, "loathe 99 x=0;loathe 99 x=0;loathe 99 x=0;like 99 x=1;like 99 x=1;like 99 x=1");
        dueLikes(is + ", more together", y, -297, 306);
    }

    private static void clerkAddsVIfEven() {
        String is = "CLERK: SUM, and v, if the number of the THING is even";
        dueLikes(is + ", v 9", one(CLERK, 9), 14, 5, 14, 5, 14);
        dueLikes(is + ", v 0", one(CLERK, 0), 5, 5, 5, 5, 5);
    }

    private static void keeperCutsTowardZero() {
        String is = "KEEPER: the half (cut toward 0) of SUM";
        GooseVotes x = one(KEEPER, 9);
        Check.bases(x, 0, 0, 1, 2, 3, 4);
        dueLikes(is, x, 0, 0, 1, 1, 2);
        Check.treaty(x, "loathe 4 p=0");
        dueLikes(is + ", SUM -4 .. 0", x, -2, -1, -1, 0, 0);
    }

    private static void radicalIs0Less() {
        String is = "RADICAL: 0 less SUM";
        GooseVotes x = one(RADICAL, 9);
        Check.bases(x, 0, 0, 1, 2, 3, 9);
        Check.treaty(x, "loathe 2 p=0");
        dueLikes(is + ", SUM -2 .. 7", x, 2, 1, 0, -1, -7);
    }

    private static void chiefIs0IfEggIsMore() {
        String is = "CHIEF: as CLERK; 0, if EGG is more than v";
        GooseVotes x = one(CHIEF, 4);
        x.egg(3);
        dueLikes(is + ", one less", x, 9, 5, 9, 5, 9);
        x.egg(4);
        dueLikes(is + ", as much", x, 9, 5, 9, 5, 9);
        x.egg(5);
        dueLikes(is + ", one more", x, 0, 0, 0, 0, 0);
        GooseVotes most = one(CHIEF, 9);
        most.egg(9);
        dueLikes(is + ", both the most", most, 14, 5, 14, 5, 14);
        GooseVotes least = one(CHIEF, 0);
        dueLikes(is + ", both the least", least, 5, 5, 5, 5, 5);
        least.egg(1);
        dueLikes(is + ", one above the least", least, 0, 0, 0, 0, 0);
    }

    private static void nurseAddsEggIfTheThingIs0() {
        String is = "NURSE: as KEEPER, and EGG, if the THING is 0";
        GooseVotes x = one(NURSE, 7);
        dueLikes(is + ", EGG 0", x, 2, 2, 2, 2, 2);
        x.egg(9);
        dueLikes(is + ", EGG 9", x, 11, 2, 2, 2, 2);
        Check.treaty(x, "loathe 8 p=0");
        dueLikes(is + ", SUM -3", x, 8, -1, -1, -1, -1);
    }

    private static void rowIsOfFour() {
        String is = "its ROW (four numbers 0 .. 9; 0 at first)";
        GooseVotes x = one(TOLD, 0);
        for (int part = 0; part < 4; part++) {
            Check.due(is + ": at first", 0, x.row(0, part, 9));
            Check.due(is + ": the most", 9, x.row(0, part, 0));
            Check.due(is + ": the least", 0, x.row(0, part, part));
        }
        for (int part = 0; part < 4; part++) {
            Check.due(is + ": each its own", part, x.row(0, part, part));
        }
        Same off = new Same(is, Sample::some);
        off.due(Check.NONE, "row", 0, -1, 0);
        off.due(Check.NONE, "row", 0, 4, 0);
        off.due(Check.BAD, "row", 0, 0, -1);
        off.due(Check.BAD, "row", 0, 3, 10);
    }

    private static void rowGoesRoundBy4() {
        String is = "TOLD: as RADICAL, and its ROW at SESSION modulo 4 more";
        GooseVotes x = one(TOLD, 0);
        int[] row = {9, 1, 6, 2};
        for (int part = 0; part < 4; part++) {
            x.row(0, part, row[part]);
        }
        for (int session = 0; session <= 9; session++) {
            Check.due(is + ": SESSION " + session, row[session % 4] - 5, x.of(0, 20));
            Check.due(is + ": THING 4, SESSION " + session, row[session % 4] - 5, x.of(0, 24));
            x.pass(1);
        }
    }

    private static void forIsOfThoseWhoLikeMore() {
        String is = "FOR one THING against another one are the VOTES of all who LIKE it more than that";
        GooseVotes x = Check.withVotes(OFFICIAL, 9);
        x.base(0, 1, 6);
        Check.due(is + ": by one more", 9, x.against(1, 0, 0));
        Check.due(is + ": by one less", 0, x.against(0, 1, 0));
        Check.due(is + ": alike", 0, x.against(0, 2, 0));
        GooseVotes all = Check.withVotes(OFFICIAL, 9, 9, 9, 9, 9, 9);
        Check.treaty(all, "like 1 x=4");
        Check.due(is + ": all", 54, all.against(4, 3, 0));
        Check.due(is + ": no OFFICIALS", 0, new GooseVotes().against(4, 3, 0));
    }

    private static void forIsOfThoseNotAway() {
        String is = "FOR are the VOTES of all not AWAY";
        GooseVotes x = Check.withVotes(OFFICIAL, 1, 2, 4);
        Check.treaty(x, "like 1 x=4");
        int[] votes = {6, 5, 3};
        for (int official = 0; official < 3; official++) {
            x.away(official, true);
            Check.due(is + ": one is", votes[official], x.against(4, 0, 0));
            x.away(official, false);
        }
        Check.due(is + ": none is", 7, x.against(4, 0, 0));
        for (int official = 0; official < 3; official++) {
            x.away(official, true);
        }
        Check.due(is + ": all are", 0, x.against(4, 0, 0));
        Check.due(is + ": it BEATS none", 0, x.against(4, 0, 1));
        Check.due(is + ": what one LIKES stays", 6, x.of(0, 24));
    }

    /** One vote FOR 1 against 0, so many FOR 0 against 1. */
    private static GooseVotes oneAgainstOthers(int votes) {
        GooseVotes x = Check.withVotes(OFFICIAL, 1, Math.min(9, votes), Math.min(9, Math.max(0, votes - 9)), Math.max(0, votes - 18));
        Check.bases(x, 0, 0, 9);
        for (int official = 1; official <= 3; official++) {
            Check.bases(x, official, 9, 0);
        }
        Check.due("oneAgainstOthers: " + votes, votes, x.against(0, 1, 0));
        return x;
    }

    private static void beatsByMoreThanQuota() {
        String is = "One BEATS another one, if more than QUOTA more are FOR it than for that";
        for (int quota : new int[] {0, 1, 3, 17}) {
            for (int more = quota - 1; more <= quota + 1; more++) {
                GooseVotes x = oneAgainstOthers(1 + more);
                Check.treaty(x, "quota " + quota);
                Check.due(is + ": " + more + ", QUOTA " + quota, more > quota ? 1 : 0, x.against(0, 1, 1));
                Check.due(is + ": the other", -more > quota ? 1 : 0, x.against(1, 0, 1));
            }
        }
        GooseVotes most = Check.withVotes(OFFICIAL, 9, 9, 9, 9, 9, 9);
        Check.treaty(most, "like 1 x=4;quota 53");
        Check.due(is + ": 54, QUOTA 53", 1, most.against(4, 0, 1));
        Check.treaty(most, "like 1 x=4;quota 54");
        Check.due(is + ": 54, QUOTA 54", 0, most.against(4, 0, 1));
    }

    private static void firstOfAnAgendaHolds() {
        String is = "By an agenda its first THING holds; each next one holds in place of it, if it BEATS that";
        for (int thing = 0; thing < 5; thing++) {
            GooseVotes x = Check.ring();
            x.put(thing);
            Check.due(is + ": one THING", thing, x.told(3));
        }
        GooseVotes alike = new GooseVotes();
        alike.put(2);
        alike.put(0);
        alike.put(4);
        Check.due(is + ": none BEATS", 2, alike.told(3));
        GooseVotes quota = Check.withVotes(OFFICIAL, 2);
        quota.base(0, 0, 9);
        quota.put(2);
        quota.put(0);
        Check.treaty(quota, "quota 2");
        Check.due(is + ": QUOTA more do not", 2, quota.told(3));
        quota.votes(0, 3);
        Check.due(is + ": one above QUOTA does", 0, quota.told(3));
        GooseVotes last = Check.ring();
        for (int thing : new int[] {4, 3, 0, 1, 2}) {
            last.put(thing);
        }
        Check.due(is + ": the fifth", 2, last.told(3));
    }

    private static void sessionOfAnEmptyAgenda() {
        String is = "A SESSION goes: what is DONE by THE AGENDA (if it is not empty)";
        GooseVotes x = Check.ring();
        x.egg(7);
        x.pass(60);
        Check.due(is + ": SESSION is 1 more", 60, x.told(0));
        Check.due(is + ": EGG stays", 7, x.told(2));
        for (int thing = 0; thing < 5; thing++) {
            Check.due(is + ": DONE stays", 0, x.told(10 + thing));
        }
        x.put(0);
        x.put(-1);
        x.pass(1);
        Check.due(is + ": emptied", 0, x.told(10));
        Check.due(is + ": emptied, EGG stays", 7, x.told(2));
    }

    private static void eggGoesRoundBy10() {
        String is = "EGG is that THING's number, 3 and EGG, together, modulo 10";
        int[][] cases = {{0, 0, 3}, {4, 2, 9}, {4, 3, 0}, {4, 4, 1}, {0, 6, 9}, {0, 7, 0}, {0, 9, 2}, {4, 9, 6}};
        for (int[] c : cases) {
            GooseVotes x = new GooseVotes();
            x.put(c[0]);
            x.egg(c[1]);
            Check.due(is + ": on " + c[0] + ", " + c[1], c[2], x.on(1, 0));
            x.pass(1);
            Check.due(is + ": " + c[0] + ", " + c[1], c[2], x.told(2));
            Check.due(is + ": DONE has 1 more", 1, x.told(10 + c[0]));
        }
    }
}
