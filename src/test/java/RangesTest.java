import java.util.ArrayList;
import java.util.List;

/**
 * Each parameter of each call at the ends of its range, just behind them and
 * at the ends of int, in all combinations: of several exceptions that apply
 * the one that is named first in the throws clause is thrown, and a call that
 * throws changes nothing. In all throws clauses the order is INDEX, ARGUMENT,
 * STATE.
 */
public final class RangesTest {
    private static final String INDEX = "throws IndexOutOfBoundsException";
    private static final String ARGUMENT = "throws IllegalArgumentException";
    private static final String STATE = "throws IllegalStateException";
    private static final String NO_STATE = "no exception";

    private static final String[] HOUSE = {"text 1:4000,2:203", "addHouse()"};
    private static final String[] SET = {"text 1:4000,2:203", "addHouse()", "book(0, 0)", "book(0, 0)", "pass(3)", "set(4, 0)"};
    private static final String[] BOOKED = {"text 1:4000,2:203", "addHouse()", "book(0, 7)", "book(0, 8)"};
    private static final String[] SNAGS = {
        "text 1:4000,2:203", "addHouse()", "book(0, 0)", "book(0, 0)", "pass(3)",
        "inspect(0, 0, 0, 1)", "inspect(0, 0, 1, 1)", "inspect(0, 0, 2, 1)", "inspect(0, 0, 3, 1)",
        "inspect(0, 1, 0, 1)", "inspect(0, 1, 1, 1)", "inspect(0, 1, 2, 1)", "inspect(0, 1, 3, 1)",
    };
    private static final String[] DAY_3 = {"text 1:4000,2:203", "addHouse()", "pass(3)"};

    private static final Range ONE_HOUSE = new Range(0, 0, INDEX);
    private static final Range TWO_MODULES = new Range(0, 1, INDEX);
    private static final Range TRADE = new Range(0, 3, INDEX);

    /** The values of a parameter that are taken, and what another one throws. */
    private static final class Range {
        final int low;
        final int high;
        final String thrown;

        Range(int low, int high, String thrown) {
            this.low = low;
            this.high = high;
            this.thrown = thrown;
        }

        List<Integer> values() {
            List<Integer> values = new ArrayList<>(List.of(low, low - 1, high + 1, Integer.MIN_VALUE, Integer.MAX_VALUE));
            if (high > low) {
                values.add(high);
            }
            return values;
        }

        boolean takes(int value) {
            return low <= value && value <= high;
        }
    }

    private final String[] setup;
    private final String name;
    private final String otherwise;
    private final Range[] ranges;

    private RangesTest(String[] setup, String name, String otherwise, Range... ranges) {
        this.setup = setup;
        this.name = name;
        this.otherwise = otherwise;
        this.ranges = ranges;
    }

    public static void main(String[] args) {
        slots();
        money();
        texts();
        questions();
        set();
        Script.close();
    }

    private static void slots() {
        Range days = new Range(3, 999, ARGUMENT);
        calls(DAY_3, "book", NO_STATE, ONE_HOUSE, days);
        calls(with(DAY_3, "book(0, 5)", "book(0, 5)"), "book", STATE, ONE_HOUSE, days);
        calls(BOOKED, "unbook", NO_STATE, ONE_HOUSE);
        calls(HOUSE, "unbook", STATE, ONE_HOUSE);
        calls(SET, "unbook", STATE, ONE_HOUSE);
        Range passed = new Range(1, 60, ARGUMENT);
        calls(BOOKED, "pass", NO_STATE, passed);
        calls(to(940), "pass", NO_STATE, passed);
        calls(to(1000), "pass", STATE, passed);
        Range future = new Range(1000, 999, ARGUMENT);
        calls(with(to(1000), HOUSE), "book", NO_STATE, ONE_HOUSE, future);
        Range last = new Range(999, 999, ARGUMENT);
        calls(with(to(999), HOUSE), "book", NO_STATE, ONE_HOUSE, last);
    }

    private static void money() {
        Range snags = new Range(1, 9, ARGUMENT);
        calls(SET, "inspect", NO_STATE, ONE_HOUSE, TWO_MODULES, TRADE, snags);
        calls(HOUSE, "inspect", STATE, ONE_HOUSE, TWO_MODULES, TRADE, snags);
        calls(BOOKED, "inspect", STATE, ONE_HOUSE, TWO_MODULES, TRADE, snags);
        calls(SNAGS, "fix", NO_STATE, ONE_HOUSE, TWO_MODULES, TRADE, TRADE);
        calls(SET, "fix", STATE, ONE_HOUSE, TWO_MODULES, TRADE, TRADE);
        calls(HOUSE, "fix", STATE, ONE_HOUSE, TWO_MODULES, TRADE, TRADE);
        calls(HOUSE, "claim", STATE, ONE_HOUSE, TWO_MODULES, TRADE, TRADE, new Range(1, 9999, ARGUMENT));
        calls(BOOKED, "claim", STATE, ONE_HOUSE, TWO_MODULES, TRADE, TRADE, new Range(1, 9999, ARGUMENT));
        calls(SET, "release", NO_STATE, ONE_HOUSE, TWO_MODULES);
        calls(HOUSE, "release", STATE, ONE_HOUSE, TWO_MODULES);
        calls(BOOKED, "release", STATE, ONE_HOUSE, TWO_MODULES);
    }

    private static void texts() {
        Range code = new Range(33, 126, ARGUMENT);
        calls(HOUSE, "append", NO_STATE, code);
        calls(new String[] {"text " + "1".repeat(59)}, "append", NO_STATE, code);
        calls(new String[] {"text " + "1".repeat(60)}, "append", STATE, code);
    }

    private static void questions() {
        for (String[] setup : new String[][] {HOUSE, BOOKED, SET, SNAGS}) {
            calls(setup, "house", NO_STATE, ONE_HOUSE, new Range(0, 6, ARGUMENT));
            calls(setup, "module", NO_STATE, ONE_HOUSE, TWO_MODULES, new Range(0, 8, ARGUMENT));
            calls(setup, "share", NO_STATE, ONE_HOUSE, TWO_MODULES, TRADE, new Range(0, 1, ARGUMENT));
            calls(setup, "bestDay", NO_STATE, ONE_HOUSE);
            calls(setup, "ifPassed", NO_STATE, new Range(1, 60, ARGUMENT), new Range(-1, 0, INDEX));
        }
        calls(new String[0], "ifPassed", NO_STATE, new Range(1, 60, ARGUMENT), new Range(-1, -1, INDEX));
        calls(to(1000), "ifPassed", NO_STATE, new Range(1, 60, ARGUMENT), new Range(-1, -1, INDEX));
        calls(SNAGS, "trade", NO_STATE, TRADE, new Range(0, 5, ARGUMENT));
        calls(SNAGS, "day", NO_STATE, new Range(0, 9999, ARGUMENT), new Range(0, 3, ARGUMENT));
        calls(SNAGS, "count", NO_STATE, new Range(0, 12, ARGUMENT));
        calls(SNAGS, "setting", NO_STATE, new Range(0, 4, INDEX));
        // No house is there, and each is one too many.
        for (String name : new String[] {"unbook", "bestDay"}) {
            calls(new String[0], name, NO_STATE, new Range(0, -1, INDEX));
        }
        String[] six = with(HOUSE, HOUSE, HOUSE, HOUSE, HOUSE, HOUSE);
        calls(six, "house", NO_STATE, new Range(0, 5, INDEX), new Range(0, 6, ARGUMENT));
        String[] large = {"text 1:1,2:2,3:3,1:4,2:5,3:6", "addHouse()"};
        calls(large, "module", NO_STATE, ONE_HOUSE, new Range(0, 5, INDEX), new Range(0, 8, ARGUMENT));
    }

    /** Here the range of the value hangs on the setting. */
    private static void set() {
        Range[] values = {
            new Range(1, 3, ARGUMENT), new Range(3, 9, ARGUMENT), new Range(0, 30, ARGUMENT),
            new Range(1, 100, ARGUMENT), new Range(0, 30, ARGUMENT),
        };
        for (int setting = 0; setting < values.length; setting++) {
            RangesTest test = new RangesTest(HOUSE, "set", NO_STATE, new Range(0, 4, INDEX), values[setting]);
            for (int value : values[setting].values()) {
                for (int other : new int[] {setting, -1, 5, Integer.MIN_VALUE, Integer.MAX_VALUE}) {
                    test.check(List.of(other, value));
                }
            }
        }
    }

    private static void calls(String[] setup, String name, String otherwise, Range... ranges) {
        new RangesTest(setup, name, otherwise, ranges).combine(new ArrayList<>());
    }

    private void combine(List<Integer> values) {
        if (values.size() == ranges.length) {
            check(values);
            return;
        }
        for (int value : ranges[values.size()].values()) {
            List<Integer> more = new ArrayList<>(values);
            more.add(value);
            combine(more);
        }
    }

    private void check(List<Integer> values) {
        ModuleYard yard = new ModuleYard();
        for (String call : setup) {
            make(yard, call);
        }
        long before = yard.digest();
        String call = name + "(" + values.toString().replaceAll("[\\[\\]]", "") + ")";
        String title = "ranges behind " + String.join(" ", setup);
        String due = due(values);
        String answer = Script.answer(yard, call);
        Script.due(title, call, answer.startsWith("throws") ? answer : NO_STATE, due);
        if (!due.equals(NO_STATE)) {
            Script.due(title, "digest() after " + call, yard.digest(), before);
        }
    }

    private String due(List<Integer> values) {
        String due = otherwise;
        // A claim of a trade against itself.
        if (name.equals("claim") && values.get(2).equals(values.get(3))) {
            due = ARGUMENT;
        }
        for (int i = 0; i < ranges.length; i++) {
            if (!ranges[i].takes(values.get(i)) && !due.equals(INDEX)) {
                due = ranges[i].thrown;
            }
        }
        return due;
    }

    private static void make(ModuleYard yard, String call) {
        if (call.startsWith("text ")) {
            Script.type(yard, call.substring(5));
        } else {
            Script.due("ranges", call + " throws", Script.answer(yard, call).startsWith("throws"), false);
        }
    }

    private static String[] with(String[] setup, String... more) {
        List<String> calls = new ArrayList<>(List.of(setup));
        calls.addAll(List.of(more));
        return calls.toArray(new String[0]);
    }

    private static String[] with(String[] setup, String[]... more) {
        String[] calls = setup;
        for (String[] part : more) {
            calls = with(calls, part);
        }
        return calls;
    }

    /** The calls that let so many days pass. */
    private static String[] to(int day) {
        List<String> calls = new ArrayList<>();
        for (int left = day; left > 0; left -= 60) {
            calls.add("pass(" + Math.min(left, 60) + ")");
        }
        return calls.toArray(new String[0]);
    }
}
