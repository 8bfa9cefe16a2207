/** The sentences of "Terms", section 2, that name a boundary: one test each. */
public final class TermsTwoTest {
    private static final int OFFICIAL = 0, CLERK = 1, RADICAL = 3, CHIEF = 4, NURSE = 5, TOLD = 6;
    private static final int MOST = Integer.MAX_VALUE, LEAST = Integer.MIN_VALUE;

    public static void main(String[] args) {
        askedChangesNothing();
        askedGoesOnBeyond9999();
        onIsOf0To60();
        onOfAnEmptyAgenda();
        agendaForIsTheFirstOrNone();
        oddsAreInLowestTerms();
        firstOrNone();
        rings();
        lastAsBits();
        bribeIsTheFewest();
        bribeIsTheLeastOfSeveral();
        bribeOrNone();
        powerIsOfMoreThanTheHalf();
        powerIs0IfAway();
        pivotIsOfMoreThanTheHalf();
        pivotIs0IfAway();
        seenAre5AtMost();
        seenOrNot();
        canIsOf0To9();
        basesAreOf0To9();
        meanWithoutVotes();
        meanMayBeBelow0();
        planIs10AtMost();
        endsOfAnEmptyPlan();
        endsTellsWhatIsAbove0();
        bookIs8AtMost();
        lookedIsTheFirstOrNone();
        actsWrap();
        actsRunTheNextBodyAbove();
        traceIsOfTheLatestAct();
        imageHoldsAll();
        imageHoldsWhichTreatyHolds();
        imageHoldsNoMore();
        Check.end("TermsTwoTest");
    }

    private static void dueFraction(String what, long above, long below, long gotAbove, long gotBelow) {
        Check.due(what + ", above", above, gotAbove);
        Check.due(what + ", below", below, gotBelow);
    }

    private static void askedChangesNothing() {
        String is = "All that follows is asked and changes nothing";
        for (Same asked : new Same[] {new Same(is, Sample::some), new Same(is + ", full", Sample::full)}) {
            for (int n : new int[] {0, 1, 60}) {
                asked.dueAsked("on", n, 0);
                asked.dueAsked("on", n, 1);
                asked.dueAsked("on", n, 14);
            }
            asked.dueAsked("agenda", 2, 0);
            asked.dueAsked("bribe", 2);
            asked.dueAsked("odds", 2, 0);
            asked.dueAsked("told", 4);
            asked.dueAsked("told", 5);
            asked.dueAsked("told", 6);
            asked.dueAsked("power", 1, 0);
            asked.dueAsked("pivot", 1, 0);
            asked.dueAsked("mean", 1, 0);
            asked.dueAsked("can", 1, 0);
            asked.dueAsked("can", 2, 1);
            asked.dueAsked("bases", 1, 0, 0);
            asked.dueAsked("bases", 2, 2, 1);
            asked.dueAsked("ends", 0);
            asked.dueAsked("ends", 1);
            asked.dueAsked("looked");
            asked.dueAsked("against", 0, 1, 0);
            asked.dueAsked("of", 0, 20);
            asked.dueAsked("trace", 0);
            asked.dueAsked("taken", 0, 0);
            asked.dueAsked("count", 7);
            asked.dueAsked("read", 0, 0);
            asked.dueAsked("judge", 0, 1);
        }
    }

    /** SESSION 9999, 0 as often DONE; from now on 1 is DONE when s is 0. */
    private static GooseVotes atTheEnd() {
        GooseVotes x = Check.withVotes(OFFICIAL, 1);
        x.put(0);
        x.put(1);
        for (int i = 0; i < 166; i++) {
            x.pass(60);
        }
        x.pass(39);
        Check.treaty(x, "like 9 s=0&x=1");
        return x;
    }

    private static void askedGoesOnBeyond9999() {
        String is = "goes on from how all is (SESSIONS, DONE beyond 9999, too)";
        GooseVotes x = atTheEnd();
        Check.due(is + ": DONE now", 9999, x.on(0, 10));
        Check.due(is + ": DONE, one more", 10000, x.on(1, 10));
        Check.due(is + ": DONE, not in SESSION 10000", 10000, x.on(2, 10));
        Check.due(is + ": DONE in SESSION 10000", 1, x.on(2, 11));
        Check.due(is + ": by THE AGENDA in SESSION 9999", 0, x.on(0, 1));
        Check.due(is + ": by THE AGENDA in SESSION 10000", 1, x.on(1, 1));
        Check.due(is + ": by THE AGENDA in SESSION 10001", 0, x.on(2, 1));
        Check.due(is + ": by THE AGENDA in SESSION 10010", 1, x.on(11, 1));
        Check.due(is + ": 60 more, DONE of 0", 9999 + 54, x.on(60, 10));
        Check.due(is + ": 60 more, DONE of 1", 6, x.on(60, 11));
        Check.due(is + ": EGG", (x.told(2) + 3 + 4) % 10, x.on(2, 0));
        Check.due(is + ": the PLAN", 1, x.plan(0, 0));
        Check.due(is + ": ENDS, SESSION 9999", 1, x.ends(1));
        Check.due(is + ": the PLAN", 2, x.plan(0, 0));
        Check.due(is + ": ENDS, SESSION 10000", 3, x.ends(1));
        Check.due(is + ": changes nothing, SESSION", 9999, x.told(0));
        Check.due(is + ": changes nothing, DONE", 9999, x.told(10));
    }

    private static void onIsOf0To60() {
        String is = "ON n SESSIONS (0 .. 60)";
        GooseVotes x = new GooseVotes();
        x.put(4);
        x.egg(1);
        x.pass(1);
        Check.due(is + ": 0, DONE", 1, x.on(0, 14));
        Check.due(is + ": 0, EGG", 8, x.on(0, 0));
        Check.due(is + ": 0, by THE AGENDA", 4, x.on(0, 1));
        Check.due(is + ": 1, DONE", 2, x.on(1, 14));
        Check.due(is + ": 1, EGG", 5, x.on(1, 0));
        Check.due(is + ": 60, DONE", 61, x.on(60, 14));
        Check.due(is + ": 59, EGG", 1, x.on(59, 0));
        Same off = new Same(is, Sample::some);
        off.due(Check.BAD, "on", -1, 0);
        off.due(Check.BAD, "on", 61, 0);
        off.due(Check.BAD, "on", LEAST, 1);
        off.due(Check.BAD, "on", MOST, 10);
    }

    private static void onOfAnEmptyAgenda() {
        String is = "what is DONE by THE AGENDA in the SESSION then (-5: it is empty)";
        GooseVotes x = Check.ring();
        x.egg(9);
        Check.due(is + ": 0", -5, x.on(0, 1));
        Check.due(is + ": 60", -5, x.on(60, 1));
        Check.due(is + ": EGG stays", 9, x.on(60, 0));
        Check.due(is + ": none is DONE", 0, x.on(60, 10));
        x.put(0);
        Check.due(is + ": not empty", 0, x.on(60, 1));
    }

    private static void dueAgenda(String sentence, GooseVotes x, int thing, int... row) {
        for (int k = 0; k < 5; k++) {
            Check.due(sentence + ": FOR " + thing + ", " + k, row[k], x.agenda(thing, k));
        }
    }

    private static void agendaForIsTheFirstOrNone() {
        String is = "AGENDA FOR a THING: the first as a row of numbers of all rows of all five (-5: by none)";
        GooseVotes alike = new GooseVotes();
        dueAgenda(is, alike, 0, 0, 1, 2, 3, 4);
        dueAgenda(is, alike, 4, 4, 0, 1, 2, 3);
        GooseVotes first = Check.withVotes(OFFICIAL, 1);
        Check.treaty(first, "like 1 x=4");
        dueAgenda(is, first, 4, 0, 1, 2, 3, 4);
        for (int thing = 0; thing < 4; thing++) {
            dueAgenda(is + ", none", first, thing, -5, -5, -5, -5, -5);
        }
        GooseVotes two = Check.withVotes(OFFICIAL, 1);
        Check.treaty(two, "loathe 1 x>2;loathe 2 x<1");
        dueAgenda(is + ", two are liked alike", two, 1, 0, 1, 2, 3, 4);
        dueAgenda(is + ", two are liked alike", two, 2, 0, 2, 1, 3, 4);
        dueAgenda(is + ", none", two, 4, -5, -5, -5, -5, -5);
        Same off = new Same(is, Sample::some);
        off.due(Check.NONE, "agenda", 0, -1);
        off.due(Check.NONE, "agenda", 0, 5);
    }

    private static void dueOdds(String sentence, GooseVotes x, int thing, int above, int below) {
        dueFraction(sentence + ": of " + thing, above, below, x.odds(thing, 0), x.odds(thing, 1));
    }

    private static void oddsAreInLowestTerms() {
        String is = "ODDS of a THING: a fraction in lowest terms";
        GooseVotes first = Check.withVotes(OFFICIAL, 1);
        Check.treaty(first, "like 1 x=4");
        dueOdds(is + ", all", first, 4, 1, 1);
        dueOdds(is + ", none", first, 0, 0, 1);
        GooseVotes alike = new GooseVotes();
        dueOdds(is + ", a fifth", alike, 0, 1, 5);
        dueOdds(is + ", a fifth", alike, 4, 1, 5);
        GooseVotes two = Check.withVotes(OFFICIAL, 1);
        Check.treaty(two, "like 1 x>2");
        dueOdds(is + ", the half", two, 3, 1, 2);
        dueOdds(is + ", none", two, 2, 0, 1);
        GooseVotes one = Check.withVotes(OFFICIAL, 2, 1);
        Check.treaty(one, "quota 1;like 1 p=0&x=0;like 1 p=1&!x=1");
        dueOdds(is + ", 0 BEATS 1 alone", one, 1, 0, 1);
    }

    private static void firstOrNone() {
        String is = "FIRST: the THING that BEATS all others (-5: none)";
        Check.due(is + ": no OFFICIALS", -5, new GooseVotes().told(4));
        for (int thing = 0; thing < 5; thing++) {
            GooseVotes x = Check.withVotes(OFFICIAL, 1);
            x.base(0, thing, 6);
            Check.due(is + ": one", thing, x.told(4));
            x.base(0, (thing + 1) % 5, 6);
            Check.due(is + ": all but one", -5, x.told(4));
            x.base(0, (thing + 1) % 5, 5);
            x.votes(0, 0);
            Check.due(is + ": no VOTES", -5, x.told(4));
        }
        Check.due(is + ": a ring", -5, Check.ring().told(4));
    }

    private static void rings() {
        String is = "RINGS: how many sets of three THINGS there are";
        Check.due(is + ": none BEATS", 0, new GooseVotes().told(5));
        Check.due(is + ": one", 1, Check.ring().told(5));
        GooseVotes row = Check.withVotes(OFFICIAL, 1);
        Check.bases(row, 0, 0, 1, 2, 3, 4);
        Check.due(is + ": no ring, but all BEAT or are BEATEN", 0, row.told(5));
        GooseVotes broken = Check.ring();
        Check.treaty(broken, "quota 1");
        Check.due(is + ": none BEATS by QUOTA", 0, broken.told(5));
        GooseVotes open = Check.withVotes(OFFICIAL, 1, 1, 1, 1);
        Check.bases(open, 0, 9, 8, 7, 1, 0);
        Check.bases(open, 1, 7, 9, 8, 1, 0);
        Check.bases(open, 2, 8, 7, 9, 1, 0);
        Check.bases(open, 3, 8, 8, 8, 1, 0);
        Check.due(is + ": one is still", 1, open.told(5));
        open.base(3, 1, 9);
        Check.due(is + ": one side alike", 0, open.told(5));
        Check.due(is + ": 0, 1 alike", 0, open.against(0, 1, 1) + open.against(1, 0, 1));
        GooseVotes most = Check.withVotes(OFFICIAL, 1, 1, 1, 1, 1);
        for (int official = 0; official < 5; official++) {
            for (int thing = 0; thing < 5; thing++) {
                most.base(official, thing, 9 - (thing - official + 5) % 5);
            }
        }
        Check.due(is + ": five are the most", 5, most.told(5));
    }

    private static void lastAsBits() {
        String is = "LAST: those THINGS, as bits, that are DONE by no row of all five";
        Check.due(is + ": none", 0, new GooseVotes().told(6));
        for (int thing = 0; thing < 5; thing++) {
            GooseVotes x = Check.withVotes(OFFICIAL, 1);
            x.base(0, thing, 6);
            Check.due(is + ": all but " + thing, 31 - (1 << thing), x.told(6));
            x.base(0, thing, 4);
            Check.due(is + ": " + thing, 1 << thing, x.told(6));
        }
    }

    private static void bribeIsTheFewest() {
        String is = "BRIBE: the set with the fewest OFFICIALS by whom being AWAY, too, it BEATS all others";
        GooseVotes none = Check.withVotes(OFFICIAL, 1, 1);
        none.base(0, 4, 6);
        Check.due(is + ": none is needed", 0, none.bribe(4));
        for (int stays : new int[] {0, 5}) {
            GooseVotes five = Check.withVotes(OFFICIAL, 1, 1, 1, 1, 1, 1);
            Check.treaty(five, "like 1 x=0&p=" + stays + ";like 1 x=1&!p=" + stays);
            Check.due(is + ": all but " + stays, 63 - (1 << stays), five.bribe(0));
            Check.due(is + ": none is needed", 0, five.bribe(1));
            five.away(3, true);
            Check.due(is + ": one is AWAY already", 63 - 8 - (1 << stays), five.bribe(0));
            Check.treaty(five, "like 1 x=0&p=" + stays + ";like 1 x=1&!p=" + stays + ";quota 1");
            Check.due(is + ": more than QUOTA is needed", -5, five.bribe(0));
        }
        GooseVotes one = Check.withVotes(OFFICIAL, 2, 2, 4, 5);
        Check.treaty(one, "like 1 x=1&p<3;like 1 x=0&p=3");
        Check.due(is + ": one rather than two with less bits", 4, one.bribe(0));
    }

    private static void bribeIsTheLeastOfSeveral() {
        String is = "BRIBE: of several the least as bits";
        GooseVotes x = Check.withVotes(OFFICIAL, 1, 1, 1, 1, 1);
        Check.treaty(x, "like 1 x=1&p>1;like 1 x=0&p<2");
        Check.due(is + ": two of 2, 3, 4", 12, x.bribe(0));
        Check.treaty(x, "like 1 x=1&p<3;like 1 x=0&p>2");
        Check.due(is + ": two of 0, 1, 2", 3, x.bribe(0));
        x.away(0, true);
        Check.due(is + ": one of 1, 2", 2, x.bribe(0));
        x.votes(1, 0);
        Check.due(is + ": one that has no VOTES is not needed", 0, x.bribe(0));
    }

    private static void bribeOrNone() {
        String is = "BRIBE (as bits; -5: none)";
        Check.due(is + ": no OFFICIALS", -5, new GooseVotes().bribe(0));
        GooseVotes x = Check.withVotes(OFFICIAL, 1);
        Check.due(is + ": liked alike", -5, x.bribe(4));
        x.base(0, 4, 6);
        Check.due(is + ": it BEATS all", 0, x.bribe(4));
        x.away(0, true);
        Check.due(is + ": all are AWAY", -5, x.bribe(4));
        GooseVotes all = Check.withVotes(OFFICIAL, 1, 1, 1, 1, 1, 1);
        Check.treaty(all, "like 1 x=1");
        Check.due(is + ": all like another", -5, all.bribe(0));
    }

    private static void duePower(String sentence, GooseVotes x, int official, int above, int below) {
        dueFraction(sentence + ": of " + official, above, below, x.power(official, 0), x.power(official, 1));
    }

    private static void duePivot(String sentence, GooseVotes x, int official, int above, int below) {
        dueFraction(sentence + ": of " + official, above, below, x.pivot(official, 0), x.pivot(official, 1));
    }

    private static void powerIsOfMoreThanTheHalf() {
        String is = "POWER: sets of others that do not have more than the half of all VOTES, but do with it";
        GooseVotes x = Check.withVotes(OFFICIAL, 2, 1, 1);
        duePower(is + ", the half", x, 0, 3, 4);
        duePower(is + ", the half", x, 1, 1, 4);
        duePower(is + ", the half", x, 2, 1, 4);
        GooseVotes odd = Check.withVotes(OFFICIAL, 2, 1);
        duePower(is + ", above the half alone", odd, 0, 1, 1);
        duePower(is + ", never", odd, 1, 0, 1);
        duePower(is + ", one", Check.withVotes(OFFICIAL, 1), 0, 1, 1);
        duePower(is + ", no VOTES", Check.withVotes(OFFICIAL, 0), 0, 0, 1);
        duePower(is + ", no VOTES", Check.withVotes(OFFICIAL, 0, 0, 0, 0, 0, 0), 5, 0, 1);
        GooseVotes six = Check.withVotes(OFFICIAL, 9, 9, 9, 9, 9, 9);
        duePower(is + ", six", six, 0, 5, 16);
        duePower(is + ", six", six, 5, 5, 16);
    }

    private static void powerIs0IfAway() {
        String is = "POWER of an OFFICIAL (0, if it is AWAY)";
        GooseVotes x = Check.withVotes(OFFICIAL, 9, 1, 1);
        x.away(0, true);
        duePower(is, x, 0, 0, 1);
        duePower(is + ", of those not AWAY", x, 1, 1, 2);
        duePower(is + ", of those not AWAY", x, 2, 1, 2);
        x.away(1, true);
        duePower(is + ", the one that is not", x, 2, 1, 1);
        x.away(2, true);
        duePower(is + ", all are", x, 2, 0, 1);
    }

    private static void pivotIsOfMoreThanTheHalf() {
        String is = "PIVOT: rows in which those ahead of it do not have more than the half, but do with it";
        GooseVotes x = Check.withVotes(OFFICIAL, 2, 1, 1);
        duePivot(is + ", the half", x, 0, 2, 3);
        duePivot(is + ", the half", x, 1, 1, 6);
        duePivot(is + ", the half", x, 2, 1, 6);
        GooseVotes odd = Check.withVotes(OFFICIAL, 2, 1);
        duePivot(is + ", above the half alone", odd, 0, 1, 1);
        duePivot(is + ", never", odd, 1, 0, 1);
        duePivot(is + ", one", Check.withVotes(OFFICIAL, 1), 0, 1, 1);
        duePivot(is + ", no VOTES", Check.withVotes(OFFICIAL, 0), 0, 0, 1);
        GooseVotes six = Check.withVotes(OFFICIAL, 9, 9, 9, 9, 9, 9);
        duePivot(is + ", six", six, 0, 1, 6);
        duePivot(is + ", six", six, 5, 1, 6);
        GooseVotes big = Check.withVotes(OFFICIAL, 9, 1, 1, 1, 1, 1);
        duePivot(is + ", one of six", big, 0, 1, 1);
        duePivot(is + ", one of six", big, 5, 0, 1);
    }

    private static void pivotIs0IfAway() {
        String is = "PIVOT of an OFFICIAL (0, if it is AWAY)";
        GooseVotes x = Check.withVotes(OFFICIAL, 9, 1, 1);
        x.away(0, true);
        duePivot(is, x, 0, 0, 1);
        duePivot(is + ", of those not AWAY", x, 1, 1, 2);
        x.away(1, true);
        duePivot(is + ", the one that is not", x, 2, 1, 1);
        x.away(2, true);
        duePivot(is + ", all are", x, 2, 0, 1);
    }

    private static void seenAre5AtMost() {
        String is = "SEEN (5 rows at most)";
        GooseVotes x = Check.withVotes(CLERK, 1);
        for (int i = 1; i <= 4; i++) {
            Check.due(is, i, x.see(0, 1, 3, false));
        }
        Check.due(is + ": the fifth", 5, x.see(0, 0, 1, true));
        Check.due(is + ": it counts", 9, x.can(0, 0));
        Check.due(is + ": a sixth", Check.FULL, x.see(0, 0, 1, false));
        Check.due(is + ": it does not count", 9, x.can(0, 0));
        new Same(is, Sample::full).due(Check.FULL, "see", 5, 0, 4, true);
        new Same(is, Sample::full).due(Check.FULL, "see", 0, 4, 0, false);
    }

    private static void seenOrNot() {
        String is = "SEEN: that it LIKES the one more than the other this SESSION, or not";
        for (boolean more : new boolean[] {true, false}) {
            GooseVotes x = Check.withVotes(OFFICIAL, 1);
            x.see(0, 0, 1, more);
            Check.due(is + ": below, alike, above", more ? 4 : 6, x.bases(0, 0, 0));
            Check.due(is + ": the least", more ? 6 : 0, x.bases(0, 0, 1));
        }
        GooseVotes session = Check.withVotes(OFFICIAL, 1);
        session.see(0, 0, 1, true);
        Check.treaty(session, "like 1 s=1&x=0");
        Check.due(is + ": not this SESSION", 0, session.can(0, 0));
        session.pass(1);
        Check.due(is + ": this SESSION", 10, session.can(0, 0));
        session.pass(1);
        Check.due(is + ": not the next one", 0, session.can(0, 0));
    }

    private static void dueCan(String sentence, GooseVotes x, int official, int many, int least) {
        Check.due(sentence + ": how many", many, x.can(official, 0));
        Check.due(sentence + ": the least", least, x.can(official, 1));
    }

    private static GooseVotes clerk(int base0, int base1, boolean more) {
        GooseVotes x = Check.withVotes(CLERK, 1, 1);
        x.base(0, 0, base0);
        x.base(0, 1, base1);
        x.see(0, 0, 1, more);
        return x;
    }

    private static void canIsOf0To9() {
        String is = "CAN of an OFFICIAL: how many numbers v (0 .. 9) there are; the least (-5: none)";
        dueCan(is + ", nothing SEEN", Check.withVotes(CLERK, 1), 0, 10, 0);
        dueCan(is + ", nothing SEEN of it", clerk(0, 9, true), 1, 10, 0);
        dueCan(is + ", all", clerk(6, 5, true), 0, 10, 0);
        dueCan(is + ", all but 0", clerk(5, 5, true), 0, 9, 1);
        dueCan(is + ", 9 alone", clerk(0, 8, true), 0, 1, 9);
        dueCan(is + ", none", clerk(0, 9, true), 0, 0, -5);
        dueCan(is + ", 0 alone", clerk(5, 5, false), 0, 1, 0);
        dueCan(is + ", all but 9", clerk(0, 8, false), 0, 9, 0);
        dueCan(is + ", none", clerk(6, 5, false), 0, 0, -5);
        GooseVotes both = clerk(0, 3, true);
        both.see(0, 2, 1, false);
        both.base(0, 2, 3);
        dueCan(is + ", not all of SEEN", both, 0, 0, -5);
        Same off = new Same(is, Sample::some);
        off.due(Check.NONE, "can", 0, -1);
        off.due(Check.NONE, "can", 0, 2);
    }

    private static void dueBases(String sentence, GooseVotes x, int official, int thing, int many, int least) {
        Check.due(sentence + ": how many", many, x.bases(official, thing, 0));
        Check.due(sentence + ": the least", least, x.bases(official, thing, 1));
    }

    private static GooseVotes liking(int base1, boolean more) {
        GooseVotes x = Check.withVotes(OFFICIAL, 1, 1);
        x.base(0, 1, base1);
        x.see(0, 0, 1, more);
        return x;
    }

    private static void basesAreOf0To9() {
        String is = "BASES of an OFFICIAL for a THING: how many numbers (0 .. 9) there are; the least (-5: none)";
        dueBases(is + ", nothing SEEN", Check.withVotes(OFFICIAL, 1), 0, 4, 10, 0);
        dueBases(is + ", nothing SEEN of it", liking(9, true), 1, 0, 10, 0);
        dueBases(is + ", all but 0", liking(0, true), 0, 0, 9, 1);
        dueBases(is + ", 9 alone", liking(8, true), 0, 0, 1, 9);
        dueBases(is + ", none", liking(9, true), 0, 0, 0, -5);
        dueBases(is + ", 0 alone", liking(0, false), 0, 0, 1, 0);
        dueBases(is + ", all but 9", liking(8, false), 0, 0, 9, 0);
        dueBases(is + ", all", liking(9, false), 0, 0, 10, 0);
        dueBases(is + ", for the other", liking(9, true), 0, 1, 5, 0);
        dueBases(is + ", for another", liking(9, true), 0, 4, 0, -5);
        GooseVotes both = liking(3, true);
        both.see(0, 0, 2, false);
        both.base(0, 2, 4);
        dueBases(is + ", all of SEEN", both, 0, 0, 1, 4);
        both.base(0, 2, 3);
        dueBases(is + ", not all of SEEN", both, 0, 0, 0, -5);
        Same off = new Same(is, Sample::some);
        off.due(Check.NONE, "bases", 0, 0, -1);
        off.due(Check.NONE, "bases", 0, 0, 2);
    }

    private static void meanWithoutVotes() {
        String is = "MEAN of a THING (NO: there are no VOTES)";
        GooseVotes zero = Check.withVotes(OFFICIAL, 0, 0);
        GooseVotes away = Check.withVotes(OFFICIAL, 0, 9);
        away.away(1, true);
        for (int part = 0; part <= 1; part++) {
            Check.due(is + ": no OFFICIALS", Check.NO, new GooseVotes().mean(0, part));
            Check.due(is + ": VOTES 0", Check.NO, zero.mean(4, part));
            Check.due(is + ": all that have any are AWAY", Check.NO, away.mean(4, part));
        }
        zero.votes(1, 1);
        dueFraction(is + ": one VOTE", 5, 1, zero.mean(4, 0), zero.mean(4, 1));
        away.away(1, false);
        dueFraction(is + ": one is back", 5, 1, away.mean(4, 0), away.mean(4, 1));
    }

    private static void meanMayBeBelow0() {
        String is = "MEAN: a fraction in lowest terms, what is above the line maybe below 0";
        GooseVotes x = Check.withVotes(RADICAL, 4, 2);
        Check.bases(x, 0, 4, 0, 0, 9, 1);
        Check.bases(x, 1, 4, 0, 3, 9, 1);
        dueFraction(is + ": a whole", -4, 1, x.mean(0, 0), x.mean(0, 1));
        dueFraction(is + ": nothing", 0, 1, x.mean(1, 0), x.mean(1, 1));
        dueFraction(is + ": less than a whole", -1, 1, x.mean(2, 0), x.mean(2, 1));
        x.votes(0, 5);
        dueFraction(is + ": lowest already", -6, 7, x.mean(2, 0), x.mean(2, 1));
        x.votes(0, 7);
        dueFraction(is + ": a common divisor", -2, 3, x.mean(2, 0), x.mean(2, 1));
    }

    private static void planIs10AtMost() {
        String is = "A PLAN (10 rows at most)";
        GooseVotes x = Check.withVotes(OFFICIAL, 1);
        for (int i = 1; i <= 9; i++) {
            Check.due(is, i, x.plan(0, 0));
        }
        Check.due(is + ": the tenth", 10, x.plan(3, 7));
        Check.due(is + ": it goes", 7, x.ends(0));
        Check.due(is + ": an eleventh", Check.FULL, x.plan(3, 8));
        Check.due(is + ": it does not go", 7, x.ends(0));
        Same off = new Same(is, Sample::full);
        off.due(Check.FULL, "plan", 0, 0);
        off.due(Check.FULL, "plan", 1, 5);
        off.due(Check.FULL, "plan", 2, 0);
        off.due(Check.FULL, "plan", 3, 9);
    }

    private static void endsOfAnEmptyPlan() {
        String is = "ENDS: EGG; which THINGS have DONE above 0 (bits), by an empty PLAN";
        GooseVotes x = new GooseVotes();
        Check.due(is + ": EGG at first", 0, x.ends(0));
        Check.due(is + ": none", 0, x.ends(1));
        x.put(4);
        x.pass(1);
        x.egg(9);
        Check.due(is + ": EGG now", 9, x.ends(0));
        Check.due(is + ": what is DONE now", 16, x.ends(1));
    }

    private static void endsTellsWhatIsAbove0() {
        String is = "ENDS: which THINGS have DONE above 0 (bits)";
        GooseVotes x = new GooseVotes();
        for (int thing = 0; thing < 5; thing++) {
            x.put(-1);
            x.put(thing);
            x.plan(-1, 0);
            Check.due(is + ": not yet " + thing, (1 << thing) - 1, x.ends(1));
            x.plan(0, 0);
            Check.due(is + ": " + thing + " once", (2 << thing) - 1, x.ends(1));
            x.plan(0, 0);
            Check.due(is + ": " + thing + " twice", (2 << thing) - 1, x.ends(1));
            x.pass(1);
        }
    }

    private static void bookIs8AtMost() {
        String is = "A BOOK (8 at most)";
        GooseVotes x = Check.withVotes(OFFICIAL, 1);
        for (int i = 1; i <= 7; i++) {
            Check.due(is, i, x.book(0, 0, 5));
        }
        Check.due(is + ": the eighth", 8, x.book(0, 4, 6));
        Check.due(is + ": it is LOOKED at", 7, x.looked());
        Check.due(is + ": a ninth", Check.FULL, x.book(0, 0, 6));
        Check.due(is + ": so many", 8, x.count(5));
        x.base(0, 4, 6);
        Check.due(is + ": the ninth is not LOOKED at", -5, x.looked());
        new Same(is, Sample::full).due(Check.FULL, "book", 0, 0, 0);
        new Same(is, Sample::full).due(Check.FULL, "book", 5, 4, 9);
    }

    private static void lookedIsTheFirstOrNone() {
        String is = "LOOKED at: the number of the first of these rows by which it is otherwise now (-5: none)";
        GooseVotes x = Check.withVotes(OFFICIAL, 1, 1);
        Check.due(is + ": an empty BOOK", -5, x.looked());
        x.book(0, 0, 5);
        x.book(1, 4, 4);
        x.book(1, 0, 6);
        Check.due(is + ": of two", 1, x.looked());
        x.base(1, 4, 4);
        Check.due(is + ": the last", 2, x.looked());
        x.base(1, 0, 6);
        Check.due(is + ": none", -5, x.looked());
        x.base(0, 0, 4);
        Check.due(is + ": the first, one less", 0, x.looked());
        x.base(0, 0, 6);
        Check.due(is + ": the first, one more", 0, x.looked());
    }

    private static GooseVotes two(int kind, int v) {
        GooseVotes x = new GooseVotes();
        x.official(kind, v, 1);
        x.official(kind, v, 1);
        return x;
    }

    private static void actsWrap() {
        String is = "ACTS of an OFFICIAL with x (wrapping)";
        Check.due(is + ": 10, x + i", LEAST, two(OFFICIAL, 0).act(1, 0, MOST));
        Check.due(is + ": 11, less v", MOST, two(OFFICIAL, 1).act(0, 1, LEAST));
        Check.due(is + ": 12, * 2", LEAST, two(OFFICIAL, 0).act(0, 2, 1 << 30));
        Check.due(is + ": 12, * 2", 0, two(OFFICIAL, 0).act(0, 2, LEAST));
        Check.due(is + ": 20, ^ 6", LEAST + 6, two(CLERK, 0).act(0, 1, LEAST));
        Check.due(is + ": 30, x * 3", 2147483645, two(2, 0).act(0, 0, MOST));
        Check.due(is + ": 30, x * 3", LEAST, two(2, 0).act(0, 0, LEAST));
        Check.due(is + ": 40, and looks(1)", LEAST, two(RADICAL, 0).act(1, 2, (1 << 30) - 2));
        Check.due(is + ": 50, -", LEAST, two(CHIEF, 0).act(0, 0, LEAST));
        Check.due(is + ": 50, -", -MOST, two(CHIEF, 0).act(0, 0, MOST));
        Check.due(is + ": 51, x + 1", LEAST + 6, two(CHIEF, 0).act(0, 1, MOST));
        Check.due(is + ": 60, x - i", -4, two(NURSE, 0).act(1, 2, LEAST));
        Check.due(is + ": 70, and clucks(2)", LEAST + 1, two(TOLD, 0).act(0, 1, MOST));
        Check.due(is + ": 71, ^ v", LEAST + 5, two(TOLD, 5).act(0, 0, LEAST));
    }

    private static void dueBodies(String sentence, GooseVotes x, int official, int act, int... bodies) {
        x.act(official, act, 3);
        Check.due(sentence + ": how many", bodies.length, x.count(7));
        for (int i = 0; i < bodies.length; i++) {
            Check.due(sentence + ": KIND " + x.of(official, 0) + ", act " + act + ", " + i, bodies[i], x.trace(i));
        }
        Check.due(sentence + ": no more", Check.NONE, x.trace(bodies.length));
    }

    private static void actsRunTheNextBodyAbove() {
        String is = "the body of its KIND, or, if that has none, of the next KIND above that has one";
        dueBodies(is, two(RADICAL, 1), 0, 0, 10);
        dueBodies(is, two(NURSE, 1), 0, 0, 30, 10);
        dueBodies(is, two(NURSE, 1), 0, 1, 11, 30, 10);
        dueBodies(is, two(CHIEF, 1), 0, 2, 12, 51, 20, 11, 50, 10);
        dueBodies(is, two(TOLD, 1), 0, 2, 40, 12, 70, 11, 71, 10, 10, 70, 11, 71, 10, 10);
        String above = "super.clucks(..): so from the KIND above the body's on";
        dueBodies(above, two(CHIEF, 1), 0, 0, 50, 10);
        dueBodies(above, two(NURSE, 1), 0, 2, 60, 12, 11, 30, 10);
        dueBodies(above, two(TOLD, 1), 0, 1, 70, 11, 71, 10, 10);
    }

    private static void traceIsOfTheLatestAct() {
        String is = "THE TRACE: the numbers of the bodies that ran in the latest act(); the first 20 are kept";
        GooseVotes x = two(TOLD, 1);
        Check.due(is + ": none yet", Check.NONE, x.trace(0));
        Check.due(is + ": none yet", 0, x.count(7));
        x.act(0, 2, 1);
        Check.due(is + ": twelve are the most", 12, x.count(7));
        Check.due(is + ": the first", 40, x.trace(0));
        Check.due(is + ": the last", 10, x.trace(11));
        Check.due(is + ": one above", Check.NONE, x.trace(12));
        Check.due(is + ": one below", Check.NONE, x.trace(-1));
        Check.due(is + ": the 20th", Check.NONE, x.trace(19));
        Check.due(is + ": the 21st", Check.NONE, x.trace(20));
        x.act(0, 0, 1);
        Check.due(is + ": the latest", 2, x.count(7));
        Check.due(is + ": the latest's last", 10, x.trace(1));
        Check.due(is + ": no more of the one before", Check.NONE, x.trace(2));
    }

    private static void imageHoldsAll() {
        Same theirs = new Same("THE IMAGE: OFFICIALS with all that is theirs", Sample::some);
        theirs.dueUndone("official", 6, 3, 3);
        theirs.dueUndone("base", 2, 4, 9);
        theirs.dueUndone("votes", 2, 9);
        theirs.dueUndone("away", 2, true);
        theirs.dueUndone("away", 3, false);
        for (int part = 0; part < 4; part++) {
            theirs.dueUndone("row", 0, part, 8);
        }
        Same all = new Same("THE IMAGE: DONE of all, THE AGENDA, EGG, SESSION, SEEN, the PLAN, the BOOK", Sample::some);
        all.dueUndone("pass", 1);
        all.dueUndone("pass", 60);
        all.dueUndone("put", 1);
        all.dueUndone("put", -1);
        all.dueUndone("egg", 1);
        all.dueUndone("see", 0, 4, 3, true);
        all.dueUndone("see", -1, 0, 0, true);
        all.dueUndone("plan", 3, 1);
        all.dueUndone("plan", -1, 0);
        all.dueUndone("book", 0, 4, 1);
        all.dueUndone("book", -1, 0, 0);
    }

    private static void imageHoldsWhichTreatyHolds() {
        String is = "THE IMAGE: which TREATY holds";
        GooseVotes x = Check.withVotes(OFFICIAL, 1);
        x.image();
        Check.due(is, 0, Check.treaty(x, "like 1 p=0;quota 1"));
        x.undo();
        Check.due(is + ": none", 5, x.of(0, 20));
        Check.due(is + ": none, QUOTA", 0, x.told(1));
        Check.due(is + ": there is one", 1, x.count(1));
        Check.due(is, 1, Check.treaty(x, "like 2 p=0;quota 2"));
        x.image();
        for (int i = 2; i < 6; i++) {
            Check.due(is, i, Check.treaty(x, "like 9 p=0;quota 9"));
        }
        x.undo();
        Check.due(is + ": the second of six", 7, x.of(0, 20));
        Check.due(is + ": the second of six, QUOTA", 2, x.told(1));
        Check.due(is + ": there are six", 6, x.count(1));
        Check.feed(x, "quota 3");
        Check.due(is + ": no seventh", Check.FULL, x.treaty());
        Check.due(is + ": the second of six, QUOTA", 2, x.told(1));
    }

    private static void imageHoldsNoMore() {
        String is = "THE IMAGE holds neither THE TEXT nor TAPES nor THE TRACE";
        GooseVotes x = Check.withVotes(OFFICIAL, 1);
        x.feed('q');
        x.tape(0, 0, 1);
        x.act(0, 0, 1);
        x.image();
        x.feed('u');
        x.item(0, 0, 7);
        x.tape(1, 3, 1);
        x.act(0, 1, 1);
        x.undo();
        Check.due(is + ": THE TEXT", 2, x.count(6));
        Check.due(is + ": an item", 7, x.read(0, 0));
        Check.due(is + ": a TAPE", 0, x.read(1, 0));
        Check.due(is + ": THE TRACE", 2, x.count(7));
    }
}
