/** Promises 10 and 11: THE TEXT and TREATIES. */
public final class TreatyTest {
    public static void main(String[] args) {
        feed();
        faults();
        nesting();
        tests();
        joining();
        clauses();
        afterFault();
        holding();
        Check.end("TreatyTest");
    }

    private static void feed() {
        GooseVotes x = new GooseVotes();
        Check.due("10: -1", Check.BAD, x.feed(-1));
        Check.due("10: 128", Check.BAD, x.feed(128));
        for (int i = 1; i <= 100; i++) {
            Check.due("10: feed", i, x.feed(i == 1 ? 0 : 127));
        }
        Check.due("10: the 101st", Check.FULL, x.feed(65));
        Check.due("10: BAD ahead of FULL", Check.BAD, x.feed(128));
        Check.due("10: bytes", 100, x.count(6));
    }

    private static void dueFault(String text, int fault) {
        GooseVotes x = new GooseVotes();
        Check.due("11: \"" + text + "\"", -10 - fault, Check.treaty(x, text));
        Check.due("11: THE TEXT is empty", 0, x.count(6));
        Check.due("11: no TREATY came", 0, x.count(1));
    }

    private static void dueTreaty(String text) {
        GooseVotes x = new GooseVotes();
        Check.due("11: \"" + text + "\"", 0, Check.treaty(x, text));
        Check.due("11: THE TEXT is empty", 0, x.count(6));
        Check.due("11: a TREATY came", 1, x.count(1));
    }

    private static void faults() {
        dueFault("", 0);
        dueFault("x", 0);
        dueFault("zo", 0);
        dueFault(";", 0);
        dueFault("l", 1);
        dueFault("lx", 1);
        dueFault("li", 2);
        dueFault("lo", 2);
        dueFault("lo ", 2);
        dueFault("loake", 3);
        dueFault("like", 4);
        dueFault("like  1 p=1", 5);
        dueFault("like p=1", 5);
        dueFault("like 1", 6);
        dueFault("like 1;", 6);
        dueFault("like 123 p=1", 7);
        dueFault("like 1 ", 7);
        dueFault("like 1  p=1", 7);
        dueFault("like 1 q=1", 7);
        dueFault("like 1 p", 8);
        dueFault("like 1 p!1", 8);
        dueFault("like 1 p=", 9);
        dueFault("like 1 p=x", 9);
        dueFault("like 1 p=123", 11);
        dueFault("like 1 p=1 ", 10);
        dueFault("like 1 p=1)", 10);
        dueFault("like 1 p=1|", 11);
        dueFault("like 1 p=1|&", 11);
        dueFault("like 1 p=1&", 11);
        dueFault("like 1 p=1&;quota 1", 11);
        dueFault("like 1 !(p=1&)", 13);
        dueFault("loathe 1 p=1&|", 13);
        dueFault("like 1 p=1;", 11);
        dueFault("like 1 p=1;;", 11);
        dueFault("like 1 (p=1", 11);
        dueFault("like 1 (p=1;", 11);
        dueFault("like 1 ()", 8);
        dueFault("like 1 !", 8);
        dueFault("like 1 p=1!", 10);
        dueFault("LIKE 1 p=1", 0);
        dueFault("loathe 1p=1", 8);
        dueFault("quota", 5);
        dueFault("quota x", 6);
        dueFault("quota 123", 8);
        dueFault("quota 1 p=1", 7);
        dueFault("quora", 3);
        dueFault("quota 1\n", 7);
        dueFault("\0", 0);
        dueFault("quota 1\0", 7);
        dueTreaty("like 0 p<0");
        dueTreaty("loathe 99 s>99");
        dueTreaty("quota 00");
        dueTreaty("like 1 p=1;quota 2;loathe 10 (k=1|v=2)&!x=3");
    }

    private static void nesting() {
        dueTreaty("like 1 ((((p=1))))");
        dueTreaty("like 1 !!!!p=1");
        dueTreaty("like 1 (!(!p=1))&((((p=1))))");
        dueTreaty("like 1 !p=1&!p=1&!p=1&!p=1&!p=1");
        dueTreaty("like 1 (((!p=1&!p=1)&(p=1)))");
        dueFault("like 1 (((((p=1)))))", 11);
        dueFault("like 1 !!!!!p=1", 11);
        dueFault("like 1 (!(!(p=1)))", 11);
        dueFault("like 1 ((((p=1&!p=1))))", 15);
        dueFault("like 1 ((((p=1))))&(((((", 23);
    }

    /** Whether a test holds of OFFICIAL 1, KIND 2, v 3, THING 4, EGG 5, SESSION 16. */
    private static void dueTest(String test, boolean holds) {
        GooseVotes x = Check.withVotes(0, 1);
        x.official(2, 3, 1);
        x.pass(16);
        x.egg(5);
        Check.due("11: TREATY", 0, Check.treaty(x, "like 40 " + test));
        Check.due("11: " + test, holds ? 22 : 2, x.of(1, 24));
    }

    private static void tests() {
        String letters = "pkvxgs";
        for (int i = 0; i < 6; i++) {
            for (int n = i; n <= i + 2; n++) {
                dueTest(letters.charAt(i) + "<" + n, i + 1 < n);
                dueTest(letters.charAt(i) + "=" + n, i + 1 == n);
                dueTest(letters.charAt(i) + ">" + n, i + 1 > n);
            }
        }
        dueTest("s<10", true);
        dueTest("s=16", false);
        dueTest("g=05", true);
        dueTest("g<50", true);
    }

    private static void joining() {
        String t = "p=1";
        String f = "p=0";
        dueTest(t + "&" + t, true);
        dueTest(t + "&" + f, false);
        dueTest(f + "&" + t, false);
        dueTest(f + "|" + f, false);
        dueTest(f + "|" + t, true);
        dueTest(t + "|" + f, true);
        dueTest(t + "|" + f + "&" + f, true);
        dueTest("(" + t + "|" + f + ")&" + f, false);
        dueTest(f + "&" + f + "|" + t, true);
        dueTest(f + "&(" + f + "|" + t + ")", false);
        dueTest("!" + f, true);
        dueTest("!" + t, false);
        dueTest("!!" + t, true);
        dueTest("!" + f + "&" + f, false);
        dueTest("!" + t + "|" + t, true);
        dueTest("!(" + t + "|" + t + ")", false);
        dueTest(f + "|!" + t, false);
        dueTest(t + "&!" + f, true);
        dueTest("!(" + f + "&" + t + ")", true);
        dueTest(f + "|" + f + "|" + f + "|" + t, true);
        dueTest(t + "&" + t + "&" + t + "&" + f, false);
        dueTest(f + "|" + t + "&" + t + "|" + f, true);
        dueTest("(" + f + "|(" + f + "|(" + f + "|(" + f + "|" + t + "&" + t + "))))", true);
    }

    private static void clauses() {
        GooseVotes x = Check.withVotes(0, 1);
        Check.due("11: TREATY", 0, Check.treaty(x, "like 20 x=0;like 30 x<2;quota 7;loathe 4 x=1;loathe 9 x=2;quota 3"));
        Check.due("11: QUOTA is the last one's", 3, x.told(1));
        Check.due("11: both like", 55, x.of(0, 20));
        Check.due("11: like and loathe", 31, x.of(0, 21));
        Check.due("11: below 0", -4, x.of(0, 22));
        Check.due("11: none holds", 5, x.of(0, 23));
        String ten = "quota 1;quota 1;quota 1;quota 1;quota 1;quota 1;quota 1;quota 1;quota 1;quota 1";
        dueTreaty(ten);
        dueFault(ten + ";", 79);
        dueFault(ten + ";quota 1", 79);
        dueFault(ten + "22", 80);
        Check.due("11: TREATY of 10", 1, Check.treaty(x,
            "like 1 x<5;like 1 x<5;like 1 x<5;like 1 x<5;like 1 x<5;like 1 x<5;like 1 x<5;like 1 x<5;like 1 x<5"));
        Check.due("11: all of its clauses", 14, x.of(0, 20));
        Check.due("11: no QUOTA in it", 0, x.told(1));
    }

    /** What was read ahead of a FAULT is no part of the TREATY that comes next. */
    private static void afterFault() {
        GooseVotes x = Check.withVotes(0, 1);
        Check.due("11: a fault behind a quota", -18, Check.treaty(x, "quota 9;"));
        Check.due("11: a fault behind a like", -21, Check.treaty(x, "like 5 x=1;"));
        Check.due("11: a fault behind a test", -26, Check.treaty(x, "like 7 x=2&x<9&x"));
        Check.due("11: TREATY", 0, Check.treaty(x, "like 1 x=0"));
        Check.due("11: no QUOTA", 0, x.told(1));
        Check.due("11: its like", 6, x.of(0, 20));
        Check.due("11: no like of another", 5, x.of(0, 21));
        Check.due("11: no test of another", 5, x.of(0, 22));
        GooseVotes y = Check.withVotes(0, 1);
        Check.due("11: a fault behind a test", -20, Check.treaty(y, "like 7 x=2."));
        Check.due("11: a fault behind a test", -21, Check.treaty(y, "like 7 x=2&"));
        Check.due("11: TREATY", 0, Check.treaty(y, "quota 1"));
        Check.due("11: no CLAUSE of another", 5, y.of(0, 22));
    }

    private static void holding() {
        GooseVotes x = Check.withVotes(0, 1);
        for (int i = 0; i < 6; i++) {
            Check.due("11: its number", i, Check.treaty(x, "quota " + (10 + i)));
            Check.due("11: it holds", 10 + i, x.told(1));
            if (i == 2) {
                Check.due("11: a fault", -15, Check.treaty(x, "quota"));
                Check.due("11: a fault behind a quota", -17, Check.treaty(x, "quota 9."));
                Check.due("11: a fault behind a like", -21, Check.treaty(x, "like 5 x=1;"));
                Check.due("11: the one that held holds", 12, x.told(1));
                Check.due("11: its likes", 5, x.of(0, 21));
            }
            Check.due("11: how many", i + 1, x.count(1));
        }
        Check.feed(x, "quota 9");
        Check.due("11: a seventh", Check.FULL, x.treaty());
        Check.due("11: THE TEXT stays", 7, x.count(6));
        Check.feed(x, "x");
        Check.due("11: FULL ahead of the FAULT", Check.FULL, x.treaty());
        Check.due("11: THE TEXT stays", 8, x.count(6));
        Check.due("11: the sixth holds", 15, x.told(1));
    }
}
