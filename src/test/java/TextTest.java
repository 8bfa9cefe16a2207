/** The sentences of "Terms", section 1, on THE TEXT and the TREATY that is read from it: one test each. */
public final class TextTest {
    private static final String CLAUSE = "quota 1";
    /** Every sort of part stands in it, at its shortest and at its longest. */
    private static final String RICH = "like 1 p<0;loathe 12 !(k=12|v>3)&x=4|g<05;quota 0;quota 99;like 0 ((((s>9))))&!!!!p=1";

    public static void main(String[] args) {
        textIs100AtMost();
        clausesAre1To10();
        oneBlankAheadOfEachPart();
        nIsOneOrTwoDigits();
        eIsOfOneOrMore();
        testIsOfALetterARelationAndANumber();
        numberOfATestIsOneOrTwoDigits();
        relationsAtTheirBounds();
        lettersAtTheirEnds();
        sGoesRoundBy10();
        fourOthersAreTheMost();
        faultIsTheFirstByte();
        faultIsTheEnd();
        faultsLeaveNothing();
        withoutATreatyNoClauses();
        newestHolds();
        sixTreatiesAtMost();
        quotaIsTheLastOnes();
        Check.end("TextTest");
    }

    /** A FAULT is told, no TREATY comes, THE TEXT is empty then. */
    private static void dueFault(String sentence, String text, int fault) {
        GooseVotes x = new GooseVotes();
        String words = sentence + ": \"" + text + "\"";
        Check.due(words, -10 - fault, Check.treaty(x, text));
        Check.due(words + ": no TREATY", 0, x.count(1));
        Check.due(words + ": THE TEXT is empty", 0, x.count(6));
    }

    private static void dueTreaty(String sentence, String text) {
        GooseVotes x = new GooseVotes();
        String words = sentence + ": \"" + text + "\"";
        Check.due(words, 0, Check.treaty(x, text));
        Check.due(words + ": a TREATY", 1, x.count(1));
        Check.due(words + ": THE TEXT is empty", 0, x.count(6));
    }

    private static void textIs100AtMost() {
        String is = "THE TEXT (bytes, 100 at most)";
        GooseVotes x = Check.withVotes(0, 1);
        Check.feed(x, Sample.hundredBytes());
        Check.due(is + ": the most", 100, x.count(6));
        Check.due(is + ": one more", Check.FULL, x.feed(')'));
        Check.due(is + ": it stays", 100, x.count(6));
        Check.due(is + ": all of it is read, no more", 0, x.treaty());
        Check.due(is + ": it holds", 19, x.of(0, 20));
        Check.due(is + ": empty then", 1, x.feed('q'));
        dueFault(is, Sample.hundredBytes().substring(0, 99) + "|", 99);
        dueFault(is, Sample.hundredBytes().substring(0, 99) + "x", 99);
        dueFault(is + ", its end", Sample.hundredBytes().substring(0, 96) + "&p=1".substring(0, 3), 99);
        dueFault(is + ", its end", "like 1 " + "p=1|".repeat(23) + "p", 100);
        String full = "like 1 " + "p=1|".repeat(22) + "!!!p=";
        Check.due(is + ": so many", 100, full.length());
        dueFault(is + ", its end", full, 100);
        dueTreaty(is + ", one less", Sample.hundredBytes().replace("14", "1"));
    }

    private static String clauses(int n) {
        return (CLAUSE + ";").repeat(n).substring(0, n * (CLAUSE.length() + 1) - 1);
    }

    private static void clausesAre1To10() {
        String is = "CLAUSES, 1 to 10, with ; between";
        dueFault(is + ", none", "", 0);
        dueFault(is + ", none", ";", 0);
        dueTreaty(is, CLAUSE);
        dueTreaty(is, clauses(9));
        dueTreaty(is, clauses(10));
        Check.due(is + ": ten are so long", 79, clauses(10).length());
        dueFault(is + ", an eleventh", clauses(11), 79);
        dueFault(is + ", a ; more", clauses(10) + ";", 79);
        dueFault(is + ", a ; more", CLAUSE + ";", 8);
        dueFault(is + ", two ;", CLAUSE + ";;" + CLAUSE, 8);
        dueFault(is + ", a ; ahead", ";" + CLAUSE, 0);
        dueFault(is + ", no ;", CLAUSE + CLAUSE, 7);
        dueFault(is + ", another sign", CLAUSE + "," + CLAUSE, 7);
        tenClausesHold(is);
    }

    private static void tenClausesHold(String is) {
        GooseVotes x = Check.withVotes(0, 1);
        String text = "like 9 p=0;like 9 p=0;like 9 p=0;like 9 p=0;like 9 p=0;like 9 p=0;quota 1;quota 2;quota 3;quota 4";
        Check.due(is + ": ten", 0, Check.treaty(x, text));
        Check.due(is + ": the first six", 59, x.of(0, 20));
        Check.due(is + ": the tenth", 4, x.told(1));
    }

    private static void oneBlankAheadOfEachPart() {
        String is = "one blank ahead of each part behind the word";
        dueFault(is, "like1 p=1", 4);
        dueFault(is, "like  1 p=1", 5);
        dueFault(is, "like 1p=1", 6);
        dueFault(is, "like 1  p=1", 7);
        dueFault(is, "like 12p=1", 7);
        dueFault(is, "loathe1 p=1", 6);
        dueFault(is, "loathe  1 p=1", 7);
        dueFault(is, "loathe 1p=1", 8);
        dueFault(is, "loathe 1  p=1", 9);
        dueFault(is, "quota1", 5);
        dueFault(is, "quota  1", 6);
        dueFault(is, " quota 1", 0);
        dueFault(is, "quota 1 ", 7);
        dueFault(is, "quota 1 ;quota 1", 7);
        dueFault(is, "quota 1; quota 1", 8);
        dueFault(is, "like\t1 p=1", 4);
        dueFault(is, "like 1 p =1", 8);
        dueFault(is, "like 1 p= 1", 9);
        dueFault(is, "like 1 p=1 ", 10);
        dueFault(is, "like 1 p=1 |p=1", 10);
        dueFault(is, "like 1 p=1| p=1", 11);
        dueFault(is, "like 1 ( p=1)", 8);
        dueFault(is, "like 1 ! p=1", 8);
    }

    private static void nIsOneOrTwoDigits() {
        String is = "n 1 or 2 digits";
        dueFault(is + ", none", "like p=1", 5);
        dueFault(is + ", none", "like  p=1", 5);
        dueFault(is + ", none", "loathe p=1", 7);
        dueFault(is + ", none", "quota ", 6);
        dueFault(is + ", none", "quota ;quota 1", 6);
        dueFault(is + ", three", "like 123 p=1", 7);
        dueFault(is + ", three", "loathe 012 p=1", 9);
        dueFault(is + ", three", "quota 000", 8);
        dueFault(is + ", below 0", "quota -1", 6);
        dueFault(is + ", beside 0", "quota /", 6);
        dueFault(is + ", beside 9", "quota :", 6);
        dueFault(is + ", beside 9", "quota 1:", 7);
        dueFault(is + ", beside 0", "like 1/ p=1", 6);
        String[] numbers = {"0", "00", "09", "9", "10", "90", "99"};
        for (String n : numbers) {
            GooseVotes x = Check.withVotes(0, 1);
            Check.due(is + ": " + n, 0, Check.treaty(x, "quota " + n + ";like " + n + " x=0;loathe " + n + " x=4"));
            int worth = Integer.parseInt(n);
            Check.due(is + ": QUOTA " + n, worth, x.told(1));
            Check.due(is + ": liked " + n, 5 + worth, x.of(0, 20));
            Check.due(is + ": loathed " + n, 5 - worth, x.of(0, 24));
        }
    }

    private static void eIsOfOneOrMore() {
        String is = "E: T or T|E. T: F or F&T. F: !F, (E), or a TEST";
        dueFault(is + ", none", "like 1 ", 7);
        dueFault(is + ", none", "like 1 ;" + CLAUSE, 7);
        dueFault(is, "like 1 |p=1", 7);
        dueFault(is, "like 1 &p=1", 7);
        dueFault(is, "like 1 p=1|", 11);
        dueFault(is, "like 1 p=1|;" + CLAUSE, 11);
        dueFault(is, "like 1 p=1||p=1", 11);
        dueFault(is, "like 1 p=1&", 11);
        dueFault(is, "like 1 p=1&&p=1", 11);
        dueFault(is, "like 1 p=1&|p=1", 11);
        dueFault(is, "like 1 p=1p=1", 10);
        dueFault(is, "like 1 p=1(p=1)", 10);
        dueFault(is, "like 1 p=1!p=1", 10);
        dueFault(is, "like 1 !", 8);
        dueFault(is, "like 1 !|p=1", 8);
        dueFault(is, "like 1 !;" + CLAUSE, 8);
        dueFault(is, "like 1 ()", 8);
        dueFault(is, "like 1 (", 8);
        dueFault(is, "like 1 )", 7);
        dueFault(is, "like 1 (p=1", 11);
        dueFault(is, "like 1 (p=1;" + CLAUSE, 11);
        dueFault(is, "like 1 (p=1))", 12);
        dueFault(is, "like 1 p=1)", 10);
        dueFault(is, "like 1 (p=1|)", 12);
        dueFault(is, "like 1 (p=1)p=1", 12);
        dueFault(is, "like 1 (!)", 9);
        dueTreaty(is, "like 1 p=1|p=1&!p=1|(p=1)&(p=1|p=1)");
    }

    private static void testIsOfALetterARelationAndANumber() {
        String is = "a TEST: a letter, < or = or >, a number";
        for (int sign = 1; sign < 128; sign++) {
            String c = String.valueOf((char) sign);
            boolean letter = "pkvxgs".contains(c);
            boolean opens = "(!".contains(c);
            if (letter) {
                dueTreaty(is, "like 1 " + c + "=1");
            } else {
                dueFault(is + ", sign " + sign, "like 1 " + c + "=1", opens ? 8 : 7);
            }
            if ("<=>".contains(c)) {
                dueTreaty(is, "like 1 p" + c + "1");
            } else {
                dueFault(is + ", sign " + sign, "like 1 p" + c + "1", 8);
            }
        }
        dueFault(is, "like 1 p", 8);
        dueFault(is, "like 1 p==1", 9);
        dueFault(is, "like 1 p<=1", 9);
        dueFault(is, "like 1 1=p", 7);
    }

    private static void numberOfATestIsOneOrTwoDigits() {
        String is = "a number (1 or 2 digits)";
        dueFault(is + ", none", "like 1 p=", 9);
        dueFault(is + ", none", "like 1 p=|p=1", 9);
        dueFault(is + ", none", "like 1 p=;" + CLAUSE, 9);
        dueTreaty(is, "like 1 p=0");
        dueTreaty(is, "like 1 p=99");
        dueFault(is + ", three", "like 1 p=012", 11);
        dueFault(is + ", three", "like 1 p=123|p=1", 11);
        dueFault(is + ", below 0", "like 1 p>-1", 9);
        dueFault(is + ", beside 0", "like 1 p=/", 9);
        dueFault(is + ", beside 9", "like 1 p=:", 9);
        dueFault(is + ", beside 9", "like 1 p=1:", 10);
    }

    /** Whether a test holds of the last OFFICIAL and a THING. */
    private static void dueHolds(String sentence, boolean holds, GooseVotes x, int thing, String test) {
        int official = x.count(0) - 1;
        int treaties = x.count(1);
        int without = x.of(official, 10 + thing);
        Check.due(sentence + ": " + test, treaties, Check.treaty(x, "like 77 " + test));
        Check.due(sentence + ": " + test + " holds", without + (holds ? 77 : 0), x.of(official, 20 + thing));
    }

    private static void relationsAtTheirBounds() {
        String is = "< or = or >";
        for (int n = 3; n <= 5; n++) {
            GooseVotes x = new GooseVotes();
            x.official(0, 4, 1);
            dueHolds(is, 4 < n, x, 0, "v<" + n);
            dueHolds(is, 4 == n, x, 0, "v=" + n);
            dueHolds(is, 4 > n, x, 0, "v>" + n);
        }
        GooseVotes y = new GooseVotes();
        y.official(0, 0, 1);
        dueHolds(is + ", 0", false, y, 0, "v<0");
        dueHolds(is + ", 0", true, y, 0, "v=00");
        dueHolds(is + ", 0", false, y, 0, "v>0");
        dueHolds(is + ", 99", true, y, 0, "v<99");
        dueHolds(is + ", 99", false, y, 0, "v=99");
        dueHolds(is + ", 99", false, y, 0, "v>99");
        GooseVotes z = new GooseVotes();
        z.official(0, 4, 1);
        for (int n = 98; n <= 99; n++) {
            dueHolds(is + ", " + n, true, z, 0, "v<" + n);
            dueHolds(is + ", " + n, false, z, 0, "v=" + n);
            dueHolds(is + ", " + n, false, z, 0, "v>" + n);
        }
    }

    private static void dueIs(String sentence, GooseVotes x, int thing, char letter, int n) {
        dueHolds(sentence, true, x, thing, letter + "=" + n);
        dueHolds(sentence, true, x, thing, letter + "<" + (n + 1));
        if (n > 0) {
            dueHolds(sentence, true, x, thing, letter + ">" + (n - 1));
        }
    }

    private static void lettersAtTheirEnds() {
        String is = "p the number of the one, k its KIND, v its v, x the number of the other, g EGG";
        dueIs(is, Check.withVotes(0, 1), 0, 'p', 0);
        dueIs(is, Check.withVotes(0, 1, 1, 1, 1, 1, 1), 0, 'p', 5);
        dueIs(is, Check.withVotes(0, 1), 0, 'k', 0);
        GooseVotes told = new GooseVotes();
        told.official(6, 0, 1);
        told.base(0, 0, 0);
        Check.treaty(told, "like 7 k=6;like 11 k>5;like 13 k<7;like 17 k<6;like 19 k>6");
        Check.due(is + ": KIND 6", -31, told.of(0, 20));
        GooseVotes v = new GooseVotes();
        v.official(0, 9, 1);
        dueIs(is, v, 0, 'v', 9);
        dueIs(is, Check.withVotes(0, 1), 0, 'v', 0);
        dueIs(is, Check.withVotes(0, 1), 0, 'x', 0);
        dueIs(is, Check.withVotes(0, 1), 4, 'x', 4);
        dueIs(is, Check.withVotes(0, 1), 0, 'g', 0);
        GooseVotes egg = Check.withVotes(0, 1);
        egg.egg(9);
        dueIs(is, egg, 0, 'g', 9);
    }

    private static void sGoesRoundBy10() {
        String is = "s SESSION modulo 10";
        int[][] sessions = {{0, 0}, {1, 1}, {9, 9}, {10, 0}, {11, 1}, {19, 9}, {20, 0}, {59, 9}, {60, 0}};
        for (int[] s : sessions) {
            GooseVotes x = Check.withVotes(0, 1);
            x.pass(s[0]);
            dueIs(is + ", SESSION " + s[0], x, 0, 's', s[1]);
        }
        GooseVotes last = Check.withVotes(0, 1);
        for (int i = 0; i < 166; i++) {
            last.pass(60);
        }
        last.pass(39);
        dueIs(is + ", SESSION 9999", last, 0, 's', 9);
    }

    private static void fourOthersAreTheMost() {
        String is = "A ( or ! within 4 others is none";
        dueTreaty(is, "like 1 ((((p=1))))");
        dueFault(is, "like 1 (((((p=1)))))", 11);
        dueTreaty(is, "like 1 !!!!p=1");
        dueFault(is, "like 1 !!!!!p=1", 11);
        dueTreaty(is, "like 1 (!(!p=1))");
        dueFault(is, "like 1 (!(!(p=1)))", 11);
        dueFault(is, "like 1 !(!(!p=1))", 11);
        dueFault(is, "like 1 ((((!p=1))))", 11);
        dueFault(is, "like 1 !!!!(p=1)", 11);
        dueFault(is, "like 1 ((((p=1&!p=1))))", 15);
        dueFault(is, "like 1 ((((p=1|(p=1)))))", 15);
        dueFault(is + ", ahead of an end", "like 1 ((((!", 11);
        dueFault(is + ", its end", "like 1 ((((", 11);
        dueTreaty(is + ", beside others", "like 1 ((((p=1))))|((((p=1))))&!!!!p=1");
        dueTreaty(is + ", beside others", "like 1 (((!p=1&!p=1|(p=1))))");
        dueTreaty(is + ", in another CLAUSE", "like 1 !!!!p=1;like 1 !!!!p=1");
        GooseVotes x = Check.withVotes(0, 1);
        dueHolds(is + ", told", true, x, 0, "!!!!p=0");
        dueHolds(is + ", told", false, x, 0, "!(!(p=1))");
        dueHolds(is + ", told", true, x, 0, "((((p=0))))");
    }

    private static void faultIsTheFirstByte() {
        String is = "The FAULT: the place of the first byte with which none begins so";
        for (int at = 0; at < RICH.length(); at++) {
            dueFault(is, RICH.substring(0, at) + "z" + RICH.substring(at + 1), at);
        }
        for (int sign : new int[] {0, 127}) {
            for (int at : new int[] {0, 1, 7, RICH.length() - 1}) {
                dueFault(is, RICH.substring(0, at) + (char) sign + RICH.substring(at + 1), at);
            }
            dueFault(is + ", behind a TREATY", CLAUSE + (char) sign, 7);
        }
        dueFault(is + ", of several", "like 1 q=1;lake", 7);
        dueFault(is, "Like 1 p=1", 0);
        dueFault(is, "lke 1 p=1", 1);
        dueFault(is, "lika 1 p=1", 3);
        dueFault(is, "loth 1 p=1", 2);
        dueFault(is, "loathE 1 p=1", 5);
        dueFault(is, "quote 1", 4);
    }

    /** Whether so much of RICH is a TREATY: its last CLAUSE has all its parts, and what was opened is closed. */
    private static boolean isTreaty(String begun) {
        String last = begun.substring(begun.lastIndexOf(';') + 1);
        boolean closed = begun.replace("(", "").length() == begun.replace(")", "").length();
        return last.matches("quota \\d+") || closed && last.matches("(like|loathe) \\d+ .*[\\d)]");
    }

    private static void faultIsTheEnd() {
        String is = "the end of THE TEXT, if it ends too early";
        int treaties = 0;
        for (int length = 0; length <= RICH.length(); length++) {
            String begun = RICH.substring(0, length);
            if (isTreaty(begun)) {
                treaties++;
                dueTreaty(is + ", not", begun);
            } else {
                dueFault(is, begun, length);
            }
        }
        Check.due(is + ": as many of RICH are TREATIES", 10, treaties);
    }

    /** What is read ahead of a FAULT takes no room from the TREATY that comes then. */
    private static void faultsLeaveNothing() {
        String is = "-10 less the FAULT, and the next TREATY is whole";
        GooseVotes x = Check.withVotes(0, 1);
        String begun = "like 1 " + "x=1|".repeat(22) + "x=1";
        for (int i = 0; i < 3; i++) {
            Check.due(is + ": a FAULT", -10 - begun.length(), Check.treaty(x, begun + "+"));
        }
        Check.due(is + ": a FAULT of ten", -10 - 79, Check.treaty(x, clauses(10) + ";"));
        Check.due(is, 0, Check.treaty(x, "like 9 x=0;like 8 x=1|x=2"));
        Check.due(is + ": the first CLAUSE", 14, x.of(0, 20));
        Check.due(is + ": the second CLAUSE", 13, x.of(0, 21));
        Check.due(is + ": the second CLAUSE", 13, x.of(0, 22));
        Check.due(is + ": none", 5, x.of(0, 23));
    }

    private static void withoutATreatyNoClauses() {
        String is = "without one there are no CLAUSES";
        GooseVotes x = Check.withVotes(0, 1);
        Check.due(is + ": QUOTA", 0, x.told(1));
        Check.due(is + ": SUM is BASE", 5, x.of(0, 20));
        Check.due(is + ": a FAULT", -24, Check.treaty(x, "like 9 p=0;quo"));
        Check.due(is + ": no TREATY", 0, x.count(1));
        Check.due(is + ": QUOTA", 0, x.told(1));
        Check.due(is + ": SUM is BASE", 5, x.of(0, 20));
    }

    private static void newestHolds() {
        String is = "The newest TREATY holds";
        GooseVotes x = Check.withVotes(0, 1);
        Check.due(is, 0, Check.treaty(x, "like 1 x=0;quota 3"));
        Check.due(is + ": the first", 6, x.of(0, 20));
        Check.due(is, 1, Check.treaty(x, "like 2 x=1"));
        Check.due(is + ": not the first", 5, x.of(0, 20));
        Check.due(is + ": the second", 7, x.of(0, 21));
        Check.due(is + ": its QUOTA", 0, x.told(1));
    }

    private static void sixTreatiesAtMost() {
        String is = "6 at most";
        GooseVotes x = Check.withVotes(0, 1);
        for (int i = 0; i < 6; i++) {
            Check.due(is + ": its number", i, Check.treaty(x, "like 1" + i + " p=0"));
            Check.due(is + ": it holds", 15 + i, x.of(0, 20));
            Check.due(is + ": how many", i + 1, x.count(1));
        }
        Check.feed(x, "like 99 p=0");
        Check.due(is + ": a seventh", Check.FULL, x.treaty());
        Check.due(is + ": the sixth holds", 20, x.of(0, 20));
        Check.due(is + ": so many", 6, x.count(1));
        Check.due(is + ": THE TEXT stays", 11, x.count(6));
    }

    private static void quotaIsTheLastOnes() {
        String is = "QUOTA (0 without): the last one's n";
        String[] texts = {"like 9 p=0", "quota 7", "quota 7;quota 0", "quota 0;quota 99;like 9 p=0", "quota 9;loathe 8 p=0;quota 6"};
        int[] quotas = {0, 7, 0, 99, 6};
        GooseVotes x = new GooseVotes();
        for (int i = 0; i < texts.length; i++) {
            Check.due(is + ": " + texts[i], i, Check.treaty(x, texts[i]));
            Check.due(is + ": " + texts[i], quotas[i], x.told(1));
        }
    }
}
