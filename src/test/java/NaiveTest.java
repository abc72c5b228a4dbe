import java.util.ArrayList;
import java.util.List;

/**
 * Long runs of calls, each made on a ModuleYard and on a NaiveYard: every
 * answer and, behind each change, the digest must be the same. The calls come
 * from a row of numbers that is always the same one.
 */
public final class NaiveTest {
    // Behind so many calls of an object the document promises nothing.
    private static final int MOST_CALLS = 512;
    private static final int RUNS = 100;

    /** What the calls of a run are mostly about. */
    private enum Kind { CROWD, LAST_DAYS, MONEY, FAR_DAYS }

    private static final String[] HOUSES = {
        "1:100", "3:9999", "2:203,1:7", "1:40,3:999,2:51", "1:1,1:2,1:3,1:4,1:5,1:6", "3:10,3:20,3:30,3:40,3:50,3:60",
        "2:1000,1:39,3:77,2:5,1:640,3:8", "1:10000", "2:5,", "4:1", "1:0",
    };
    private static final int RIGHT_HOUSES = 7;
    private static final String[] WINDS = {
        "3", "9", "2", "9,3", "9,9,2", "5*3,2*2,9", "7,6,5,4,3,2,1,0", "9*59,2", "3*10,9*10", "2*30,6*31", "8,", "1*1",
    };
    private static final int[] LEAST_VALUES = {1, 3, 0, 1, 0};
    private static final int[] VALUES = {3, 7, 31, 100, 31};

    private long seed;
    private final String title;
    private final Kind kind;
    private final ModuleYard yard = new ModuleYard();
    private final NaiveYard naive = new NaiveYard();
    private int calls = 0;

    private NaiveTest(int run) {
        seed = run * 7919L + 17;
        kind = Kind.values()[run % Kind.values().length];
        title = "run " + run + ", " + kind;
    }

    public static void main(String[] args) {
        for (int run = 0; run < RUNS; run++) {
            new NaiveTest(run).go();
        }
        Script.close();
    }

    private void go() {
        int houses = kind == Kind.CROWD ? 6 : 1 + below(4);
        for (int i = 0; i < houses; i++) {
            makeAll(text(HOUSES[below(RIGHT_HOUSES)], "addHouse()"));
        }
        for (int left = kind == Kind.LAST_DAYS ? 940 + below(60) : 0; left > 0; left -= 60) {
            make("pass(" + Math.min(left, 60) + ")");
        }
        while (calls < MOST_CALLS - 1) {
            int which = below(kind == Kind.MONEY ? 32 : 22);
            makeAll(which < 14 ? slotCalls(which) : which < 22 ? otherCalls(which) : List.of(moneyCall()));
        }
    }

    private void makeAll(List<String> list) {
        list.forEach(this::make);
    }

    private void make(String call) {
        same(call);
        if (!call.startsWith("append")) {
            same("digest()");
        }
    }

    private void same(String call) {
        if (calls < MOST_CALLS) {
            calls++;
            Script.due(title, calls + ": " + call, Script.answer(yard, call), Script.answer(naive, call));
        }
    }

    /** A number from 0 to below most. */
    private int below(int most) {
        seed = seed * 6364136223846793005L + 1442695040888963407L;
        return (int) ((seed >>> 33) % most);
    }

    /** Most often a number from 0 to below most, now and then one about it. */
    private int about(int most) {
        return below(16) == 0 ? below(most + 4) - 2 : below(Math.max(most, 1));
    }

    private int aHouse() {
        return about(naive.count(0));
    }

    private List<String> slotCalls(int which) {
        if (which < 8) {
            return List.of(bookCall());
        }
        if (which < 10) {
            return List.of("unbook(" + aHouse() + ")");
        }
        return List.of("pass(" + (below(10) == 0 ? about(62) : 1 + below(3)) + ")");
    }

    private String bookCall() {
        int house = aHouse();
        boolean known = house >= 0 && house < naive.count(0);
        int first = Math.max(naive.count(4), known ? naive.house(house, 6) : 0);
        return "book(" + house + ", " + (first + about(kind == Kind.FAR_DAYS ? 110 : 4)) + ")";
    }

    private List<String> otherCalls(int which) {
        switch (which) {
            case 14:
                return List.of("undo()");
            case 15:
                return List.of(setCall());
            case 16:
                return texts();
            case 17:
                return List.of("bestDay(" + aHouse() + ")");
            case 18:
                return List.of("ifPassed(" + (1 + about(60)) + ", " + (about(naive.count(0) + 1) - 1) + ")");
            case 19:
                return List.of("day(" + (naive.count(4) + about(9) - 4) + ", " + about(4) + ")");
            default:
                return List.of("house(" + aHouse() + ", " + about(7) + ")");
        }
    }

    private String setCall() {
        int setting = about(5);
        boolean known = setting >= 0 && setting < 5;
        int value = known ? LEAST_VALUES[setting] + about(VALUES[setting]) : below(5);
        return "set(" + setting + ", " + value + ")";
    }

    private List<String> texts() {
        boolean isHouse = below(3) == 0;
        String text = isHouse ? HOUSES[below(HOUSES.length)] : WINDS[below(WINDS.length)];
        return text(text, (below(8) == 0) == isHouse ? "setWinds()" : "addHouse()");
    }

    private List<String> text(String text, String last) {
        List<String> list = new ArrayList<>();
        list.add("clearBuffer()");
        text.chars().forEach(code -> list.add("append(" + code + ")"));
        list.add("firstError(" + (below(2) == 0) + ")");
        list.add(last);
        return list;
    }

    private String moneyCall() {
        int house = aHouse();
        boolean known = house >= 0 && house < naive.count(0);
        // Most often a module that is set.
        int module = about(known ? naive.house(house, below(8) == 0 ? 0 : 2) : 1);
        String place = "(" + house + ", " + module;
        switch (below(7)) {
            case 0:
            case 1:
                return "inspect" + place + ", " + about(4) + ", " + (1 + about(9)) + ")";
            case 2:
            case 3:
                return "fix" + place + ", " + about(4) + ", " + about(4) + ")";
            case 4:
                return "claim" + place + ", " + about(4) + ", " + about(4) + ", " + (1 + about(below(9) == 0 ? 9999 : 20)) + ")";
            case 5:
                return "release" + place + ")";
            default:
                return "share" + place + ", " + about(4) + ", " + about(2) + ")";
        }
    }
}
