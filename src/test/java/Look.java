import java.util.ArrayList;
import java.util.List;
import java.util.Set;

/** All that can be asked of an object behind a history, in groups, each of a new twin, as an object has 512 calls. */
final class Look {
    static final int GROUPS = 18;

    private final DriftPages x = new DriftPages();
    private final List<String> answers = new ArrayList<>();
    private final Set<String> free;
    private int calls = 0;

    /** What is free is not looked at: "tape", "fault". The last call counts whether it was made or not. */
    Look(List<Script.Call> history, Script.Call last, Set<String> free) {
        this.free = free;
        for (Script.Call call : history) {
            call.of(x);
        }
        if (last != null) {
            last.of(x);
        }
        calls = history.size() + 1;
    }

    private long ask(String name, long... numbers) {
        if (calls >= Script.CALLS) {
            return -1;
        }
        calls++;
        Script.Call call = new Script.Call(name, numbers);
        long answer = call.of(x);
        answers.add(call + " answers " + answer);
        return answer;
    }

    List<String> through(int group) {
        switch (group) {
            case 0 -> sizes();
            case 1 -> schema();
            case 2 -> rows();
            case 3 -> past();
            case 4 -> keys();
            case 5 -> page();
            case 6 -> accounts();
            case 7 -> tapeAsToken();
            case 8 -> tapeAsTable();
            case 9 -> acts();
            default -> goes((group - 10) / 2, group % 2 == 0);
        }
        return answers;
    }

    private void sizes() {
        if (!free.contains("fault")) {
            ask("fault");
        }
        for (int what = free.contains("tape") ? 1 : 0; what < 4; what++) {
            ask("size", what);
        }
        for (int what = 0; what < 7; what++) {
            ask("about", what);
        }
    }

    private void schema() {
        for (int k = 0; k < 4; k++) {
            ask("kind", k);
            for (int what = 0; what < 3; what++) {
                ask("orderAt", k, what);
            }
        }
        for (int k = 0; k < 2; k++) {
            ask("condition", k, 0);
            ask("condition", k, 1);
        }
        for (int id = 0; id < 64; id++) {
            ask("passes", id);
        }
        for (int k = 0; k < 41; k++) {
            ask("ranked", k);
        }
        for (int k = 0; k < 41; k++) {
            ask("lacking", k);
        }
    }

    private void rows() {
        for (int id = 0; id < 64; id++) {
            for (int column = 0; column < 4; column++) {
                ask("value", id, column);
            }
        }
    }

    private void past() {
        long latest = ask("about", 4);
        for (long version = ask("about", 6); version <= latest; version++) {
            for (int id = 0; id < 8; id++) {
                ask("was", version, id, 0);
            }
        }
    }

    private void keys() {
        for (int id = 0; id < 64; id++) {
            long size = ask("keySize", id);
            for (int k = 0; k < size; k++) {
                ask("keyByte", id, k);
            }
        }
    }

    private void page() {
        long rows = ask("size", 1);
        ask("beyond", 0);
        ask("beyond", 1);
        for (int k = 0; k < rows; k++) {
            ask("at", k);
            for (int column = 0; column < 4; column++) {
                ask("cell", k, column);
            }
        }
        for (int which = 0; which < 2; which++) {
            long size = ask("tokenSize", which);
            for (int k = 0; k < size; k++) {
                ask("tokenByte", which, k);
            }
        }
    }

    private void accounts() {
        for (int reader = 0; reader < 4; reader++) {
            for (int what = 0; what < 7; what++) {
                ask("account", reader, what);
            }
            for (int id = 0; id < 64; id++) {
                ask("seen", reader, id);
            }
        }
    }

    private void tapeAsToken() {
        if (free.contains("tape")) {
            return;
        }
        long size = ask("size", 0);
        for (int k = 0; k <= size && k < 60; k++) {
            ask("checks", k);
        }
        ask("next", size);
        ask("trouble");
        page();
    }

    private void tapeAsTable() {
        if (free.contains("tape")) {
            return;
        }
        ask("table", ask("size", 0));
        ask("trouble");
        ask("fault");
        ask("where");
        rows();
    }

    private void acts() {
        ask("insert", Long.MIN_VALUE, Long.MIN_VALUE, Long.MIN_VALUE, Long.MIN_VALUE);
        ask("trouble");
        ask("remove", 0);
        ask("about", 4);
        ask("sieve", 0, 3, 0);
        ask("trouble");
        ask("about", 5);
    }

    /** Where a reader stands is told by what it sees next. */
    private void goes(int reader, boolean onward) {
        ask(onward ? "on" : "back", reader);
        ask("trouble");
        for (int id = 0; id < 64; id++) {
            ask("seen", reader, id);
        }
        ask("account", reader, 5);
        ask("account", reader, 6);
    }
}
