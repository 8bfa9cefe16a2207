import java.util.ArrayList;
import java.util.List;
import java.util.function.Supplier;

/** Whether a call leaves all as it was: held against an object made alike on which it was not called. */
final class Same {
    private final String sentence;
    private final Supplier<GooseVotes> making;

    /** A sentence of the document, and the object on which its calls are tried, each on a new one. */
    Same(String sentence, Supplier<GooseVotes> making) {
        this.sentence = sentence;
        this.making = making;
    }

    /** The call answers as due, and nothing is otherwise behind it. */
    void due(long want, String name, Object... with) {
        GooseVotes x = making.get();
        Call call = Call.of(name, with);
        Check.due(sentence + ": " + call, want, call.on(x));
        dueUnchanged(call, x);
    }

    /** Nothing is otherwise behind the call, whatever it answers. */
    void dueAsked(String name, Object... with) {
        GooseVotes x = making.get();
        Call call = Call.of(name, with);
        call.on(x);
        dueUnchanged(call, x);
    }

    /** The call does change something, and undo() takes it back, as often as it is called. */
    void dueUndone(String name, Object... with) {
        Call call = Call.of(name, with);
        GooseVotes changed = making.get();
        changed.image();
        call.on(changed);
        GooseVotes x = making.get();
        int officials = x.image();
        for (int twice = 0; twice < 2; twice++) {
            call.on(x);
            Check.due(sentence + ": undo() behind " + call, officials, x.undo());
        }
        GooseVotes without = making.get();
        without.image();
        List<String> before = portrait(without);
        Check.due(sentence + ": " + call + " changes something", 0, before.equals(portrait(changed)) ? 1 : 0);
        dueAlike(call + " is undone", before, portrait(x));
    }

    private void dueUnchanged(Call call, GooseVotes x) {
        dueAlike(call + " changes nothing", portrait(making.get()), portrait(x));
    }

    private void dueAlike(String words, List<String> want, List<String> got) {
        int alike = 0;
        while (alike < want.size() && alike < got.size() && want.get(alike).equals(got.get(alike))) {
            alike++;
        }
        String first = alike < got.size() ? got.get(alike) : "less is told";
        Check.due(sentence + ": " + words + ", but: " + first, want.size(), alike);
    }

    /** All that can be asked; then what shows itself by calls that change. Some 300 calls in all. */
    private static List<String> portrait(GooseVotes x) {
        List<String> all = new ArrayList<>();
        tellWorld(x, all);
        tellLikings(x, all);
        tellTraceAndTapes(x, all);
        tellRows(x, all);
        tellText(x, all);
        tell(all, x, "undo");
        tellWorld(x, all);
        return all;
    }

    private static void tell(List<String> all, GooseVotes x, String name, Object... with) {
        Call call = Call.of(name, with);
        all.add(call + " answers " + call.on(x));
    }

    private static void tellWorld(GooseVotes x, List<String> all) {
        for (int what = 0; what <= 7; what++) {
            tell(all, x, "count", what);
        }
        for (int what : new int[] {0, 1, 2, 3, 4, 5, 6, 10, 11, 12, 13, 14}) {
            tell(all, x, "told", what);
        }
        for (int official = 0; official < x.count(0); official++) {
            for (int what : new int[] {0, 1, 2, 3, 10, 11, 12, 13, 14}) {
                tell(all, x, "of", official, what);
            }
            tell(all, x, "can", official, 0);
            tell(all, x, "can", official, 1);
        }
        tell(all, x, "ends", 0);
        tell(all, x, "ends", 1);
        tell(all, x, "looked");
    }

    private static void tellLikings(GooseVotes x, List<String> all) {
        for (int official = 0; official < x.count(0); official++) {
            for (int thing = 0; thing < 5; thing++) {
                tell(all, x, "of", official, 20 + thing);
                tell(all, x, "bases", official, thing, 0);
            }
        }
    }

    private static void tellTraceAndTapes(GooseVotes x, List<String> all) {
        for (int i = 0; i <= 6; i++) {
            tell(all, x, "trace", i);
        }
        for (int tape = 0; tape < 6; tape++) {
            for (int place : new int[] {0, 1, 2, 3, 7, 59}) {
                tell(all, x, "read", tape, place);
            }
        }
    }

    private static void tellRows(GooseVotes x, List<String> all) {
        for (int official = 0; official < x.count(0); official++) {
            if (x.of(official, 0) == 6) {
                for (int part = 0; part < 4; part++) {
                    tell(all, x, "row", official, part, 0);
                }
            }
        }
    }

    /** THE TEXT shows itself by the TREATY that it is, or by its FAULT. */
    private static void tellText(GooseVotes x, List<String> all) {
        tell(all, x, "treaty");
        tell(all, x, "told", 1);
        tell(all, x, "of", 0, 20);
        tell(all, x, "of", 0, 24);
    }
}
