import java.util.Random;

/** Runs of 512 calls, the same ones each time, on the class and on the Model. */
public final class ModelTest {
    /** What an object answers behind its 512th call is free; fillWithVotes() calls it most often in one turn. */
    private static final int RUNS = 400, CALLS = 512, MOST_IN_A_TURN = 6;
    private static final String[] BITS = {"like ", "loathe ", "quota ", "p", "k", "v", "x", "g", "s", "<", "=", ">",
        "0", "3", "12", "(", ")", "!", "&", "|", ";", " ", "z"};

    private final Random random;
    private final GooseVotes x = new GooseVotes();
    private final Model m = new Model();
    private final int run;
    private final int unruly;
    private String pending = "";
    private int calls;

    private ModelTest(int run) {
        this.run = run;
        this.random = new Random(7919L * run + 13);
        this.unruly = new int[] {3, 12, 40}[run % 3];
    }

    public static void main(String[] args) {
        for (int run = 0; run < RUNS; run++) {
            new ModelTest(run).go();
        }
        Check.end("ModelTest");
    }

    private int below(int n) {
        return random.nextInt(n);
    }

    /** Mostly a number from..to, at times one beside it or far off. */
    private int any(int from, int to) {
        if (below(unruly) > 0) {
            return from + below(to - from + 1);
        }
        int[] odd = {from - 1, to + 1, from - 2, to + 7, Integer.MIN_VALUE, Integer.MAX_VALUE, -1, 1000};
        return odd[below(odd.length)];
    }

    private int sparse(int from, int to, int... others) {
        return below(3) == 0 ? others[below(others.length)] : any(from, to);
    }

    private void go() {
        int officials = below(7);
        for (int i = 0; i < officials; i++) {
            int kind = below(7);
            int v = below(10);
            int votes = below(10);
            due("official", m.official(kind, v, votes), x.official(kind, v, votes), kind, v, votes);
        }
        for (int turn = 0; turn < CALLS && calls + MOST_IN_A_TURN <= CALLS; turn++) {
            if (pending.isEmpty()) {
                callOne();
            } else {
                feedPending();
            }
        }
    }

    private void due(String name, long want, long got, Object... with) {
        calls++;
        Check.due("run " + run + ": " + name + java.util.Arrays.toString(with), want, got);
    }

    private void feedPending() {
        int sign = pending.charAt(0);
        pending = pending.substring(1);
        due("feed", m.feed(sign), x.feed(sign), sign);
        if (pending.isEmpty()) {
            due("treaty", m.treaty(), x.treaty());
        }
    }

    private String single(int depth) {
        int way = below(depth > 4 ? 3 : 6);
        if (way == 5) {
            return "(" + either(depth + 1) + ")";
        }
        if (way == 4) {
            return "!" + single(depth + 1);
        }
        return "" + "pkvxgs".charAt(below(6)) + "<=>".charAt(below(3)) + (below(5) == 0 ? below(100) : below(10));
    }

    private String either(int depth) {
        StringBuilder e = new StringBuilder(single(depth));
        for (int more = below(4); more > 0; more -= 2) {
            e.append("&|".charAt(below(2))).append(single(depth));
        }
        return e.toString();
    }

    private String treatyText() {
        StringBuilder text = new StringBuilder();
        int clauses = below(25) == 0 ? 12 : 1 + below(4);
        for (int i = 0; i < clauses; i++) {
            text.append(i == 0 ? "" : ";");
            if (clauses == 12 || below(4) == 0) {
                text.append("quota ").append(below(8));
            } else {
                text.append(below(2) == 0 ? "like " : "loathe ").append(below(30)).append(" ").append(either(0));
            }
        }
        while (below(3) == 0) {
            int at = below(text.length() + 1);
            text.insert(at, BITS[below(BITS.length)]);
        }
        if (below(8) == 0) {
            text.setLength(below(text.length() + 1));
        }
        return text.toString();
    }

    private void callOne() {
        switch (below(5)) {
            case 0: officials(); break;
            case 1: sessions(); break;
            case 2: powers(); break;
            case 3: rows(); break;
            default: tapes(); break;
        }
    }

    private void officials() {
        int o = any(0, 5);
        int t = any(0, 4);
        int n = any(0, 9);
        switch (below(12)) {
            case 0: {
                int kind = any(0, 6);
                int v = any(0, 9);
                due("official", m.official(kind, v, n), x.official(kind, v, n), kind, v, n);
                break;
            }
            case 1: case 2: {
                int what = sparse(20, 24, 0, 1, 2, 3, 10, 11, 12, 13, 14);
                due("of", m.of(o, what), x.of(o, what), o, what);
                break;
            }
            case 3: case 4: due("base", m.base(o, t, n), x.base(o, t, n), o, t, n); break;
            case 5: due("votes", m.votes(o, n), x.votes(o, n), o, n); break;
            case 6: {
                boolean is = below(2) == 0;
                due("away", m.away(o, is), x.away(o, is), o, is);
                break;
            }
            case 7: due("put", m.put(t), x.put(t), t); break;
            case 8: due("egg", m.egg(n), x.egg(n), n); break;
            case 9: {
                int part = any(0, 3);
                due("row", m.row(o, part, n), x.row(o, part, n), o, part, n);
                break;
            }
            case 10: {
                int sign = any(0, 127);
                due("feed", m.feed(sign), x.feed(sign), sign);
                break;
            }
            default: {
                if (m.count(6) > 0) {
                    due("treaty", m.treaty(), x.treaty());
                }
                pending = below(3) == 0 ? treatyText() : "";
                break;
            }
        }
    }

    private void sessions() {
        int t = any(0, 4);
        switch (below(6)) {
            case 0: {
                int what = sparse(0, 6, 10, 11, 12, 13, 14);
                due("told", m.told(what), x.told(what), what);
                break;
            }
            case 1: {
                int other = any(0, 4);
                int what = any(0, 1);
                due("against", m.against(t, other, what), x.against(t, other, what), t, other, what);
                break;
            }
            case 2: {
                int n = below(9) == 0 ? any(0, 60) : below(4);
                due("pass", m.pass(n), x.pass(n), n);
                break;
            }
            case 3: {
                int n = below(9) == 0 ? any(0, 60) : below(6);
                int what = sparse(0, 1, 10, 11, 12, 13, 14);
                due("on", m.on(n, what), x.on(n, what), n, what);
                break;
            }
            case 4: {
                int k = any(0, 4);
                due("agenda", m.agenda(t, k), x.agenda(t, k), t, k);
                break;
            }
            default: due("bribe", m.bribe(t), x.bribe(t), t); break;
        }
    }

    private void powers() {
        int t = any(0, 4);
        int o = any(0, 5);
        int part = any(0, 1);
        switch (below(7)) {
            case 0: due("odds", m.odds(t, part), x.odds(t, part), t, part); break;
            case 1: due("power", m.power(o, part), x.power(o, part), o, part); break;
            case 2: due("pivot", m.pivot(o, part), x.pivot(o, part), o, part); break;
            case 3: due("mean", m.mean(t, part), x.mean(t, part), t, part); break;
            case 4: {
                int other = any(0, 4);
                int who = below(6) == 0 ? -1 : o;
                boolean more = below(2) == 0;
                due("see", m.see(who, t, other, more), x.see(who, t, other, more), who, t, other, more);
                break;
            }
            case 5: due("can", m.can(o, part), x.can(o, part), o, part); break;
            default: due("bases", m.bases(o, t, part), x.bases(o, t, part), o, t, part); break;
        }
    }

    private void rows() {
        int o = any(0, 5);
        int n = any(0, 9);
        switch (below(6)) {
            case 0: {
                int what = below(12) == 0 ? -1 : any(0, 3);
                int with = what == 3 ? n : o;
                due("plan", m.plan(what, with), x.plan(what, with), what, with);
                break;
            }
            case 1: {
                int what = any(0, 1);
                due("ends", m.ends(what), x.ends(what), what);
                break;
            }
            case 2: {
                int t = any(0, 4);
                int who = below(12) == 0 ? -1 : o;
                int base = below(2) == 0 ? n : Math.max(-1, m.of(who, 10 + t));
                due("book", m.book(who, t, base), x.book(who, t, base), who, t, base);
                break;
            }
            case 3: due("looked", m.looked(), x.looked()); break;
            case 4: due("image", m.image(), x.image()); break;
            default: {
                if (below(4) == 0) {
                    due("undo", m.undo(), x.undo());
                }
                break;
            }
        }
    }

    private void tapes() {
        int tape = any(0, 5);
        int i = any(0, 8);
        switch (below(10)) {
            case 0: {
                int o = any(0, 5);
                int act = any(0, 2);
                int with = any(-100, 100);
                due("act", m.act(o, act, with), x.act(o, act, with), o, act, with);
                break;
            }
            case 1: due("trace", m.trace(i), x.trace(i), i); break;
            case 2: {
                int o = any(0, 5);
                int k = any(0, 6);
                due("taken", m.taken(o, k), x.taken(o, k), o, k);
                break;
            }
            case 3: {
                int what = any(0, 7);
                due("count", m.count(what), x.count(what), what);
                break;
            }
            case 4: {
                int sort = below(2) == 0 ? 0 : any(-1, 4);
                int n = below(2) == 0 ? 8 : any(0, 60);
                due("tape", m.tape(tape, sort, n), x.tape(tape, sort, n), tape, sort, n);
                break;
            }
            case 5: {
                long v = below(2) == 0 ? random.nextLong() : below(10);
                due("item", m.item(tape, i, v), x.item(tape, i, v), tape, i, v);
                break;
            }
            case 6: due("read", m.read(tape, i), x.read(tape, i), tape, i); break;
            case 7: shiftOne(tape, i); break;
            case 8: fillWithVotes(tape, i); break;
            default: due("judge", m.judge(tape, i), x.judge(tape, i), tape, i); break;
        }
    }

    private void shiftOne(int tape, int i) {
        int other = any(0, 5);
        int j = any(0, 8);
        int n = any(0, 8);
        due("shift", m.shift(tape, i, other, j, n), x.shift(tape, i, other, j, n), tape, i, other, j, n);
    }

    private void fillWithVotes(int tape, int from) {
        for (int o = 0; o < m.count(0); o++) {
            long v = below(9) == 0 ? 1 : m.of(o, 2) + 256L * below(2);
            due("item", m.item(tape, from + o, v), x.item(tape, from + o, v), tape, from + o, v);
        }
    }
}
