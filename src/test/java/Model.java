import java.util.ArrayList;
import java.util.Arrays;
import java.util.List;
import java.util.regex.Matcher;
import java.util.regex.Pattern;

/**
 * The document once more, written another way: texts by a regular expression and by cutting them,
 * KINDS by real Java classes, rows and sets by laying them all. ModelTest holds the two together.
 */
final class Model {
    static final long NO = Long.MIN_VALUE;

    // ---- officials, whose acts are plain Java.

    static class Official implements Cloneable {
        int kind, number, v, votes;
        boolean away;
        int[] base = {5, 5, 5, 5, 5};
        int[] row = new int[4];
        List<Integer> bodies;

        int clucks(int x) { bodies.add(10); return x + number; }
        int looks(int x) { bodies.add(11); return clucks(x) - v; }
        int tells(int x) { bodies.add(12); return looks(x) * 2; }
        int likes(int sum, int thing, State s) { return sum; }

        Official copy() {
            try {
                Official other = (Official) clone();
                other.base = base.clone();
                other.row = row.clone();
                return other;
            } catch (CloneNotSupportedException e) {
                throw new IllegalStateException(e);
            }
        }
    }

    static class Clerk extends Official {
        @Override int looks(int x) { bodies.add(20); return super.looks(x) ^ 6; }
        @Override int likes(int sum, int thing, State s) { return thing == 1 || thing == 3 ? sum : sum + v; }
    }

    static class Keeper extends Official {
        @Override int clucks(int x) { bodies.add(30); return super.clucks(x * 3); }
        @Override int likes(int sum, int thing, State s) { return (int) (sum / 2.0); }
    }

    static class Radical extends Official {
        @Override int tells(int x) { bodies.add(40); return super.tells(x) + looks(1); }
        @Override int likes(int sum, int thing, State s) { return 0 - sum; }
    }

    static class Chief extends Clerk {
        @Override int clucks(int x) { bodies.add(50); return -super.clucks(x); }
        @Override int looks(int x) { bodies.add(51); return super.looks(x + 1); }
        @Override int likes(int sum, int thing, State s) { return s.egg > v ? 0 : super.likes(sum, thing, s); }
    }

    static class Nurse extends Keeper {
        @Override int tells(int x) { bodies.add(60); return super.tells(x - number); }
        @Override int likes(int sum, int thing, State s) {
            return super.likes(sum, thing, s) + (thing == 0 ? s.egg : 0);
        }
    }

    static class Told extends Radical {
        @Override int looks(int x) { bodies.add(70); return super.looks(x) + super.clucks(2); }
        @Override int clucks(int x) { bodies.add(71); return super.clucks(x) ^ v; }
        @Override int likes(int sum, int thing, State s) {
            return super.likes(sum, thing, s) + row[s.session % 4];
        }
    }

    static Official ofKind(int kind) {
        Official[] all = {new Official(), new Clerk(), new Keeper(), new Radical(), new Chief(), new Nurse(), new Told()};
        all[kind].kind = kind;
        return all[kind];
    }

    // ---- treaties, kept as their texts.

    private static final String TEST = "[pkvxgs][<=>][0-9]{1,2}";
    private static final Pattern TREATY;

    static {
        String single = TEST;
        String either = single + "(?:[&|]" + single + ")*";
        for (int within = 3; within >= 0; within--) {
            single = "(?:" + TEST + "|\\(" + either + "\\)|!" + single + ")";
            either = single + "(?:[&|]" + single + ")*";
        }
        String clause = "(?:quota [0-9]{1,2}|like [0-9]{1,2} " + either + "|loathe [0-9]{1,2} " + either + ")";
        TREATY = Pattern.compile(clause + "(?:;" + clause + "){0,9}");
    }

    /** -1, or the FAULT: hitEnd() tells whether more text could still make a TREATY. */
    static int fault(String text) {
        for (int i = 0; i < text.length(); i++) {
            Matcher matcher = TREATY.matcher(text.substring(0, i + 1));
            if (!matcher.matches() && !matcher.hitEnd()) {
                return i;
            }
        }
        return TREATY.matcher(text).matches() ? -1 : text.length();
    }

    /** Where a sign stands outside all parentheses, the last such place; -1. */
    private static int lastOutside(String e, char sign) {
        int depth = 0;
        int found = -1;
        for (int i = 0; i < e.length(); i++) {
            char c = e.charAt(i);
            depth += c == '(' ? 1 : c == ')' ? -1 : 0;
            if (c == sign && depth == 0) {
                found = i;
            }
        }
        return found;
    }

    private static boolean holds(String e, Official o, int thing, State s) {
        for (char sign : new char[] {'|', '&'}) {
            int cut = lastOutside(e, sign);
            if (cut >= 0) {
                boolean left = holds(e.substring(0, cut), o, thing, s);
                boolean right = holds(e.substring(cut + 1), o, thing, s);
                return sign == '|' ? left || right : left && right;
            }
        }
        if (e.charAt(0) == '!') {
            return !holds(e.substring(1), o, thing, s);
        }
        if (e.charAt(0) == '(') {
            return holds(e.substring(1, e.length() - 1), o, thing, s);
        }
        int number = Integer.parseInt(e.substring(2));
        int fact = switch (e.charAt(0)) {
            case 'p' -> o.number;
            case 'k' -> o.kind;
            case 'v' -> o.v;
            case 'x' -> thing;
            case 'g' -> s.egg;
            default -> s.session % 10;
        };
        return switch (e.charAt(1)) {
            case '<' -> fact < number;
            case '=' -> fact == number;
            default -> fact > number;
        };
    }

    // ---- all that the image holds.

    static final class State {
        List<Official> officials = new ArrayList<>();
        int[] done = new int[5];
        List<Integer> agenda = new ArrayList<>();
        int egg, session;
        String treaty = "";
        List<int[]> seen = new ArrayList<>(), plan = new ArrayList<>(), book = new ArrayList<>();

        State copy() {
            State s = new State();
            for (Official o : officials) {
                s.officials.add(o.copy());
            }
            s.done = done.clone();
            s.agenda = new ArrayList<>(agenda);
            s.egg = egg;
            s.session = session;
            s.treaty = treaty;
            s.seen = new ArrayList<>(seen);
            s.plan = new ArrayList<>(plan);
            s.book = new ArrayList<>(book);
            return s;
        }

        String[] clauses() {
            return treaty.isEmpty() ? new String[0] : treaty.split(";");
        }

        int quota() {
            int quota = 0;
            for (String clause : clauses()) {
                if (clause.startsWith("quota")) {
                    quota = Integer.parseInt(clause.split(" ")[1]);
                }
            }
            return quota;
        }

        int likes(Official o, int thing) {
            int sum = o.base[thing];
            for (String clause : clauses()) {
                String[] parts = clause.split(" ");
                if (parts.length == 3 && holds(parts[2], o, thing, this)) {
                    int n = Integer.parseInt(parts[1]);
                    sum += parts[0].equals("like") ? n : -n;
                }
            }
            return o.likes(sum, thing, this);
        }

        int[][] allLikes() {
            int[][] likes = new int[officials.size()][5];
            for (int o = 0; o < likes.length; o++) {
                for (int t = 0; t < 5; t++) {
                    likes[o][t] = likes(officials.get(o), t);
                }
            }
            return likes;
        }

        boolean[][] beats() {
            return beats(allLikes(), 0);
        }

        /** What beats what, if those of a set are away, too. */
        boolean[][] beats(int[][] likes, int awayToo) {
            boolean[][] beats = new boolean[5][5];
            for (int a = 0; a < 5; a++) {
                for (int b = 0; b < 5; b++) {
                    beats[a][b] = votesFor(likes, awayToo, a, b) > votesFor(likes, awayToo, b, a) + quota();
                }
            }
            return beats;
        }

        int votesFor(int[][] likes, int awayToo, int a, int b) {
            int votes = 0;
            for (Official o : officials) {
                boolean here = !o.away && (awayToo & (1 << o.number)) == 0;
                votes += here && likes[o.number][a] > likes[o.number][b] ? o.votes : 0;
            }
            return votes;
        }

        int first(boolean[][] beats) {
            for (int a = 0; a < 5; a++) {
                int beaten = 0;
                for (int b = 0; b < 5; b++) {
                    beaten += beats[a][b] ? 1 : 0;
                }
                if (beaten == 4) {
                    return a;
                }
            }
            return -5;
        }

        int done(List<Integer> row, boolean[][] beats) {
            int holds = row.isEmpty() ? -5 : row.get(0);
            for (int thing : row) {
                holds = beats[thing][holds] ? thing : holds;
            }
            return holds;
        }

        void go() {
            int thing = done(agenda, beats());
            if (thing >= 0) {
                done[thing]++;
                egg = (thing + 3 + egg) % 10;
            }
            session++;
        }

        List<Integer> here() {
            List<Integer> here = new ArrayList<>();
            for (Official o : officials) {
                if (!o.away) {
                    here.add(o.number);
                }
            }
            return here;
        }

        int votesOf(List<Integer> set) {
            int votes = 0;
            for (int o : set) {
                votes += officials.get(o).votes;
            }
            return votes;
        }

        boolean most(List<Integer> set) {
            return votesOf(set) > votesOf(here()) / 2.0;
        }

        boolean allSeen(int official) {
            for (int[] row : seen) {
                Official o = officials.get(official);
                if (row[0] == official && likes(o, row[1]) > likes(o, row[2]) != (row[3] == 1)) {
                    return false;
                }
            }
            return true;
        }
    }

    static List<List<Integer>> rows(List<Integer> things) {
        List<List<Integer>> all = new ArrayList<>();
        if (things.isEmpty()) {
            all.add(new ArrayList<>());
        }
        for (Integer head : things) {
            List<Integer> rest = new ArrayList<>(things);
            rest.remove(head);
            for (List<Integer> tail : rows(rest)) {
                tail.add(0, head);
                all.add(tail);
            }
        }
        return all;
    }

    private static final List<List<Integer>> ALL_FIVE = rows(List.of(0, 1, 2, 3, 4));

    private static long part(long above, long below, int part) {
        for (long d = below; d > 1; d--) {
            if (above % d == 0 && below % d == 0) {
                above /= d;
                below /= d;
            }
        }
        return part == 0 ? above : below;
    }

    // ---- the face.

    private State s = new State();
    private State imaged;
    private String text = "";
    private int treaties;
    private List<Integer> trace = new ArrayList<>();
    private final int[] sorts = {-1, -1, -1, -1, -1, -1};
    private final long[][] tapes = new long[6][0];

    private boolean thing(int t) { return t >= 0 && t <= 4; }
    private boolean off(int o) { return o >= 0 && o < s.officials.size(); }
    private boolean digit(int n) { return n >= 0 && n <= 9; }
    private boolean bit(int n) { return n == 0 || n == 1; }
    private boolean noTape(int t) { return t < 0 || t > 5; }

    int official(int kind, int v, int votes) {
        if (kind < 0 || kind > 6) return -1;
        if (!digit(v) || !digit(votes)) return -2;
        if (s.officials.size() == 6) return -4;
        Official o = ofKind(kind);
        o.number = s.officials.size();
        o.v = v;
        o.votes = votes;
        s.officials.add(o);
        return o.number;
    }

    int of(int official, int what) {
        if (!off(official)) return -10001;
        Official o = s.officials.get(official);
        if (what >= 10 && what <= 14) return o.base[what - 10];
        if (what >= 20 && what <= 24) return s.likes(o, what - 20);
        return what == 0 ? o.kind : what == 1 ? o.v : what == 2 ? o.votes : what == 3 ? (o.away ? 1 : 0) : -10001;
    }

    int base(int official, int thing, int n) {
        if (!off(official) || !thing(thing)) return -1;
        if (!digit(n)) return -2;
        int was = s.officials.get(official).base[thing];
        s.officials.get(official).base[thing] = n;
        return was;
    }

    int votes(int official, int n) {
        if (!off(official)) return -1;
        if (!digit(n)) return -2;
        int was = s.officials.get(official).votes;
        s.officials.get(official).votes = n;
        return was;
    }

    int away(int official, boolean is) {
        if (!off(official)) return -1;
        boolean was = s.officials.get(official).away;
        s.officials.get(official).away = is;
        return was ? 1 : 0;
    }

    int put(int thing) {
        if (thing == -1) {
            s.agenda.clear();
            return 0;
        }
        if (!thing(thing)) return -1;
        if (s.agenda.contains(thing)) return -3;
        s.agenda.add(thing);
        return s.agenda.size();
    }

    int egg(int n) {
        if (!digit(n)) return -2;
        int was = s.egg;
        s.egg = n;
        return was;
    }

    int row(int official, int part, int n) {
        if (!off(official) || part < 0 || part > 3) return -1;
        if (!digit(n)) return -2;
        Official o = s.officials.get(official);
        if (o.kind != 6) return -3;
        int was = o.row[part];
        o.row[part] = n;
        return was;
    }

    int feed(int sign) {
        if (sign < 0 || sign > 127) return -2;
        if (text.length() == 100) return -4;
        text += (char) sign;
        return text.length();
    }

    int treaty() {
        if (treaties == 6) return -4;
        String read = text;
        text = "";
        int fault = fault(read);
        if (fault >= 0) return -10 - fault;
        s.treaty = read;
        return treaties++;
    }

    int told(int what) {
        boolean[][] beats = s.beats();
        switch (what) {
            case 0: return s.session;
            case 1: return s.quota();
            case 2: return s.egg;
            case 3: return s.done(s.agenda, beats);
            case 4: return s.first(beats);
            case 5: {
                int rings = 0;
                for (int set = 0; set < 32; set++) {
                    boolean ring = Integer.bitCount(set) == 3;
                    for (int a = 0; a < 5; a++) {
                        int beaten = 0;
                        int beatenBy = 0;
                        for (int b = 0; b < 5; b++) {
                            if ((set >> b & 1) == 1) {
                                beaten += beats[a][b] ? 1 : 0;
                                beatenBy += beats[b][a] ? 1 : 0;
                            }
                        }
                        ring &= (set >> a & 1) == 0 || (beaten == 1 && beatenBy == 1);
                    }
                    rings += ring ? 1 : 0;
                }
                return rings;
            }
            case 6: {
                int last = 31;
                for (List<Integer> row : ALL_FIVE) {
                    last &= ~(1 << s.done(row, beats));
                }
                return last;
            }
            default: return what >= 10 && what <= 14 ? s.done[what - 10] : -1;
        }
    }

    int against(int one, int other, int what) {
        if (!thing(one) || !thing(other) || !bit(what)) return -1;
        if (one == other) return -2;
        return what == 0 ? s.votesFor(s.allLikes(), 0, one, other) : s.beats()[one][other] ? 1 : 0;
    }

    int pass(int n) {
        if (n < 0 || n > 60) return -2;
        if (s.session + n > 9999) return -3;
        for (int i = 0; i < n; i++) s.go();
        return s.session;
    }

    int on(int n, int what) {
        if (!bit(what) && !(what >= 10 && what <= 14)) return -1;
        if (n < 0 || n > 60) return -2;
        State then = s.copy();
        for (int i = 0; i < n; i++) then.go();
        return what == 0 ? then.egg : what == 1 ? then.done(then.agenda, then.beats()) : then.done[what - 10];
    }

    int agenda(int thing, int k) {
        if (!thing(thing) || k < 0 || k > 4) return -1;
        boolean[][] beats = s.beats();
        for (List<Integer> row : ALL_FIVE) {
            if (s.done(row, beats) == thing) return row.get(k);
        }
        return -5;
    }

    int bribe(int thing) {
        if (!thing(thing)) return -1;
        for (int size = 0; size <= s.officials.size(); size++) {
            for (int set = 0; set < 64; set++) {
                if (Integer.bitCount(set) == size && set >> s.officials.size() == 0
                        && s.first(s.beats(s.allLikes(), set)) == thing) {
                    return set;
                }
            }
        }
        return -5;
    }

    long odds(int thing, int part) {
        if (!thing(thing) || !bit(part)) return NO;
        int count = 0;
        boolean[][] beats = s.beats();
        for (List<Integer> row : ALL_FIVE) {
            count += s.done(row, beats) == thing ? 1 : 0;
        }
        return part(count, 120, part);
    }

    long power(int official, int part) {
        if (!off(official) || !bit(part)) return NO;
        List<Integer> others = s.here();
        boolean here = others.remove((Integer) official);
        int count = 0;
        int sets = 0;
        for (int set = 0; set < 1 << others.size(); set++, sets++) {
            List<Integer> in = new ArrayList<>();
            for (int i = 0; i < others.size(); i++) {
                if ((set >> i & 1) == 1) in.add(others.get(i));
            }
            boolean before = s.most(in);
            in.add(official);
            count += here && !before && s.most(in) ? 1 : 0;
        }
        return part(count, sets, part);
    }

    long pivot(int official, int part) {
        if (!off(official) || !bit(part)) return NO;
        int count = 0;
        List<List<Integer>> rows = rows(s.here());
        for (List<Integer> row : rows) {
            int at = row.indexOf(official);
            count += at >= 0 && !s.most(row.subList(0, at)) && s.most(row.subList(0, at + 1)) ? 1 : 0;
        }
        return part(count, rows.size(), part);
    }

    long mean(int thing, int part) {
        if (!thing(thing) || !bit(part) || s.votesOf(s.here()) == 0) return NO;
        int above = 0;
        for (int o : s.here()) {
            above += s.officials.get(o).votes * s.likes(s.officials.get(o), thing);
        }
        return part(above, s.votesOf(s.here()), part);
    }

    int see(int official, int one, int other, boolean more) {
        if (official == -1) {
            s.seen.clear();
            return 0;
        }
        if (!off(official) || !thing(one) || !thing(other)) return -1;
        if (one == other) return -2;
        if (s.seen.size() == 5) return -4;
        s.seen.add(new int[] {official, one, other, more ? 1 : 0});
        return s.seen.size();
    }

    private int manyOrLeast(List<Integer> fit, int what) {
        return what == 0 ? fit.size() : fit.isEmpty() ? -5 : fit.get(0);
    }

    int can(int official, int what) {
        if (!off(official) || !bit(what)) return -1;
        List<Integer> fit = new ArrayList<>();
        for (int v = 0; v <= 9; v++) {
            State with = s.copy();
            with.officials.get(official).v = v;
            if (with.allSeen(official)) fit.add(v);
        }
        return manyOrLeast(fit, what);
    }

    int bases(int official, int thing, int what) {
        if (!off(official) || !thing(thing) || !bit(what)) return -1;
        List<Integer> fit = new ArrayList<>();
        for (int base = 0; base <= 9; base++) {
            State with = s.copy();
            with.officials.get(official).base[thing] = base;
            if (with.allSeen(official)) fit.add(base);
        }
        return manyOrLeast(fit, what);
    }

    int plan(int what, int n) {
        if (what == -1) {
            s.plan.clear();
            return 0;
        }
        if (what < 0 || what > 3 || (what == 1 || what == 2) && !off(n)) return -1;
        if (what == 3 && !digit(n)) return -2;
        if (s.plan.size() == 10) return -4;
        s.plan.add(new int[] {what, n});
        return s.plan.size();
    }

    int ends(int what) {
        if (!bit(what)) return -1;
        State then = s.copy();
        for (int[] row : s.plan) {
            if (row[0] == 0) then.go();
            if (row[0] == 1) then.officials.get(row[1]).away = true;
            if (row[0] == 2) then.officials.get(row[1]).away = false;
            if (row[0] == 3) then.egg = row[1];
        }
        int bits = 0;
        for (int t = 0; t < 5; t++) bits += then.done[t] > 0 ? 1 << t : 0;
        return what == 0 ? then.egg : bits;
    }

    int book(int official, int thing, int base) {
        if (official == -1) {
            s.book.clear();
            return 0;
        }
        if (!off(official) || !thing(thing)) return -1;
        if (!digit(base)) return -2;
        if (s.book.size() == 8) return -4;
        s.book.add(new int[] {official, thing, base});
        return s.book.size();
    }

    int looked() {
        for (int[] row : s.book) {
            if (s.officials.get(row[0]).base[row[1]] != row[2]) return s.book.indexOf(row);
        }
        return -5;
    }

    int judge(int tape, int i) {
        if (noTape(tape)) return -1;
        if (sorts[tape] > 0) return -12;
        for (Official o : s.officials) {
            long place = (long) i + o.number;
            if (i < 0 || place >= tapes[tape].length) return 100 + o.number;
            if (tapes[tape][(int) place] != o.votes) return o.number;
        }
        return -5;
    }

    int image() {
        imaged = s.copy();
        return s.officials.size();
    }

    int undo() {
        if (imaged == null) return -3;
        s = imaged.copy();
        return s.officials.size();
    }

    int act(int official, int act, int x) {
        trace = new ArrayList<>();
        if (!off(official) || act < 0 || act > 2) return 0;
        Official o = s.officials.get(official);
        o.bodies = trace;
        return act == 0 ? o.clucks(x) : act == 1 ? o.looks(x) : o.tells(x);
    }

    int trace(int i) {
        return i < 0 || i >= trace.size() || i >= 20 ? -1 : trace.get(i);
    }

    int taken(int official, int k) {
        if (k < 0 || k > 6) return -2;
        if (!off(official)) return -11;
        Official o = s.officials.get(official);
        return ofKind(k).getClass().isInstance(o) ? o.kind : -12;
    }

    int count(int what) {
        int[] counts = {s.officials.size(), treaties, s.agenda.size(), s.seen.size(), s.plan.size(), s.book.size(),
            text.length(), trace.size()};
        return what < 0 || what >= counts.length ? -2 : counts[what];
    }

    int tape(int tape, int sort, int n) {
        if (noTape(tape)) return -1;
        if (sort < -1 || sort > 4 || sort != -1 && n > 60) return -2;
        if (sort != -1 && n < 0) return -14;
        sorts[tape] = sort;
        tapes[tape] = new long[sort == -1 ? 0 : n];
        return 1;
    }

    int item(int tape, int i, long v) {
        if (noTape(tape)) return -1;
        if (sorts[tape] == -1) return -11;
        if (i < 0 || i >= tapes[tape].length) return -13;
        int unused = 64 - new int[] {8, 16, 32, 64, 64}[sorts[tape]];
        tapes[tape][i] = sorts[tape] == 4 ? (v != 0 ? 1 : 0) : v << unused >> unused;
        return 1;
    }

    long read(int tape, int i) {
        return noTape(tape) || i < 0 || i >= tapes[tape].length ? NO : tapes[tape][i];
    }

    int shift(int tape, int i, int other, int j, int n) {
        if (noTape(tape) || noTape(other)) return -1;
        if (sorts[tape] == -1 || sorts[other] == -1) return -11;
        if (sorts[tape] != sorts[other]) return -12;
        boolean apart = n < 0 || i < 0 || j < 0;
        if (apart || (long) i + n > tapes[tape].length || (long) j + n > tapes[other].length) return -13;
        long[] as = Arrays.copyOfRange(tapes[tape], i, i + n);
        for (int k = 0; k < n; k++) tapes[other][j + k] = as[k];
        return n;
    }
}
