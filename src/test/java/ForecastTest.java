/** Promises 23 to 28: ends, bestDay, ifPassed, worstTrade, heldShare, digest. */
public final class ForecastTest {
    private static final String TO_900 = "pass(60) = 0\n".repeat(15);

    public static void main(String[] args) {
        ends();
        bestDay();
        ifPassed();
        worstTrade();
        heldShare();
        digest();
        digestOfHeldShares();
        digestOfNextDays();
        Script.close();
    }

    private static void ends() {
        Script.run("promise 23", """
                ends() = -1
                text 1:10,1:10
                addHouse() = 0
                ends() = -1
                book(0, 0) = 0
                ends() = 0
                book(0, 7) = 1
                ends() = 7
                pass(1) = 1
                ends() = 7
                pass(7) = 1
                ends() = -1
                count(4) = 8
                """);
        Script.run("promise 23: what has to wait", """
                text 3:10,3:10
                addHouse() = 0
                text 9,9,9,2,9,2
                setWinds() = 6
                book(0, 0) = 0
                book(0, 1) = 1
                ends() = 5
                text 9
                setWinds() = 1
                ends() = -1
                """);
        Script.run("promise 23: the last of 300 days", """
                text 1:10
                addHouse() = 0
                book(0, 299) = 0
                ends() = 299
                unbook(0) = 299
                book(0, 300) = 0
                ends() = -1
                pass(1) = 0
                ends() = 300
                """);
        Script.run("promise 23: behind the day 1000", """
                text 1:10
                addHouse() = 0
                """ + TO_900 + """
                pass(60) = 0
                text 9*59,3
                setWinds() = 60
                book(0, 999) = 0
                ends() = 1019
                pass(40) = 0
                count(4) = 1000
                ends() = 1019
                pass(1) throws IllegalState
                ifPassed(19, 0) = 0
                ifPassed(20, 0) = 1
                """);
    }

    private static void bestDay() {
        Script.run("promise 24: wind, room and the one ahead", """
                text 3:10,1:10
                addHouse() = 0
                text 3:20
                addHouse() = 1
                text 9,3,2,7,2,6
                setWinds() = 6
                bestDay(0) = 2
                bestDay(1) = 2
                book(0, 2) = 0
                bestDay(1) = 4
                bestDay(0) = 2
                book(0, 3) = 1
                bestDay(0) = -1
                pass(3) = 1
                bestDay(1) = 4
                unbook(0) = 3
                bestDay(0) = 4
                bestDay(2) throws IndexOutOfBounds
                bestDay(-1) throws IndexOutOfBounds
                bestDay(2147483647) throws IndexOutOfBounds
                """);
        Script.run("promise 24: 100 days", """
                text 1:10,1:10
                addHouse() = 0
                book(0, 99) = 0
                bestDay(0) = 99
                unbook(0) = 99
                book(0, 100) = 0
                bestDay(0) = -1
                pass(1) = 0
                bestDay(0) = 100
                text 9
                setWinds() = 1
                bestDay(0) = -1
                """);
        Script.run("promise 24: none above 999", """
                text 3:10
                addHouse() = 0
                """ + TO_900 + """
                pass(41) = 0
                text 9*59,2
                setWinds() = 60
                bestDay(0) = 959
                pass(18) = 0
                bestDay(0) = 959
                pass(1) = 0
                bestDay(0) = -1
                text 9*39,2,9*20
                setWinds() = 60
                bestDay(0) = 999
                text 9*40,2,9*19
                setWinds() = 60
                bestDay(0) = -1
                pass(40) = 0
                bestDay(0) = -1
                """);
    }

    private static void ifPassed() {
        Script.run("promise 25", """
                text 1:10,1:10,1:10
                addHouse() = 0
                text 1:10
                addHouse() = 1
                book(0, 0) = 0
                book(0, 2) = 1
                book(1, 59) = 0
                ifPassed(1, 0) = 1
                ifPassed(2, 0) = 1
                ifPassed(3, 0) = 2
                ifPassed(60, 0) = 2
                ifPassed(59, 1) = 0
                ifPassed(60, 1) = 1
                ifPassed(60, NONE) = 3
                pass(1) = 1
                ifPassed(60, NONE) = 2
                ifPassed(60, 0) = 1
                ifPassed(0, 0) throws IllegalArgument
                ifPassed(61, 0) throws IllegalArgument
                ifPassed(0, NONE) throws IllegalArgument
                ifPassed(-1, NONE) throws IllegalArgument
                ifPassed(2147483647, NONE) throws IllegalArgument
                ifPassed(1, 2) throws IndexOutOfBounds
                ifPassed(1, -2) throws IndexOutOfBounds
                ifPassed(0, 2) throws IndexOutOfBounds
                ifPassed(61, -2) throws IndexOutOfBounds
                """);
    }

    private static void worstTrade() {
        Script.run("promise 26", """
                worstTrade() = -1
                text 1:1000,1:1000
                addHouse() = 0
                book(0, 0) = 0
                book(0, 0) = 1
                pass(1) = 2
                worstTrade() = -1
                inspect(0, 0, 3, 1) = 1
                worstTrade() = 3
                inspect(0, 1, 2, 1) = 1
                worstTrade() = 2
                claim(0, 0, 0, 3, 1) = 24
                worstTrade() = 3
                inspect(0, 1, 2, 1) = 2
                worstTrade() = 2
                inspect(0, 0, 0, 2) = 2
                worstTrade() = 0
                claim(0, 1, 1, 2, 1) = 24
                worstTrade() = 2
                fix(0, 1, 2, 2) = 0
                worstTrade() = 0
                fix(0, 0, 0, 0) = 0
                fix(0, 0, 0, 0) = 0
                worstTrade() = 2
                """);
    }

    private static void heldShare() {
        Script.run("promise 27", """
                heldShare() = 0.0
                text 1:1000,1:7
                addHouse() = 0
                heldShare() = 0.0
                book(0, 0) = 0
                book(0, 1) = 1
                pass(1) = 1
                heldShare() = 0.1
                set(2, 30) = 10
                pass(1) = 1
                heldShare() = 0.1012909632571996
                set(4, 0) = 5
                release(0, 0) = 100
                release(0, 1) = 2
                heldShare() = 0.0
                """);
    }

    private static void digest() {
        // The calls make states in which all parts of the list are not 0.
        String[] calls = {
            "book(0, 0)", "book(0, 1)", "book(0, 1)", "book(1, 3)", "pass(1)", "inspect(0, 0, 2, 3)", "fix(0, 0, 2, 1)",
            "claim(0, 0, 3, 0, 7)", "pass(2)", "append(49)", "append(126)", "set(3, 77)", "pass(6)", "inspect(0, 1, 0, 9)",
            "release(0, 0)", "undo()", "release(0, 1)", "clearBuffer()",
        };
        ModuleYard yard = new ModuleYard();
        Script.due("promise 28", "digest() of a new object", yard.digest(), digestOf(yard, new int[0]));
        Script.type(yard, "3*2,6,0*3,9,4");
        yard.setWinds();
        Script.type(yard, "1:1000,2:203,3:999");
        yard.addHouse();
        Script.type(yard, "2:500,2:51");
        yard.addHouse();
        StringBuilder buffer = new StringBuilder();
        for (String call : calls) {
            Script.due("promise 28", call, Script.answer(yard, call).startsWith("throws"), false);
            if (call.startsWith("append")) {
                buffer.append((char) Integer.parseInt(call.substring(7, call.length() - 1)));
            }
            if (call.startsWith("clearBuffer")) {
                buffer.setLength(0);
            }
            Script.due("promise 28", "digest() after " + call, yard.digest(), digestOf(yard, buffer.chars().toArray()));
        }
    }

    /** Shares that are powers of 2, and such as need all the bits. */
    private static void digestOfHeldShares() {
        for (int hold = 0; hold <= 30; hold++) {
            for (int price : new int[] {4, 7, 100, 999, 9999}) {
                ModuleYard yard = new ModuleYard();
                Script.type(yard, "1:" + price);
                yard.addHouse();
                yard.set(2, hold);
                yard.book(0, 0);
                yard.pass(1);
                String title = "promise 28: held are " + hold + " of 100 of " + price;
                Script.due(title, "digest()", yard.digest(), digestOf(yard, new int[0]));
            }
        }
    }

    /** What is set within 9, 10 and 11 days is not the same. */
    private static void digestOfNextDays() {
        ModuleYard yard = new ModuleYard();
        Script.type(yard, "1:1,1:2,1:3,1:4");
        yard.addHouse();
        yard.pass(3);
        for (int number = 11; number <= 14; number++) {
            yard.book(0, number);
            Script.due("promise 28", "digest() with " + number, yard.digest(), digestOf(yard, new int[0]));
        }
        Script.due("promise 28", "ifPassed(10)", yard.ifPassed(10, ModuleYard.NONE), 2);
    }

    private static long digestOf(ModuleYard yard, int[] codes) {
        long[] hash = {2293};
        for (int what = 0; what <= 12; what++) {
            add(hash, yard.count(what));
        }
        for (int setting = 0; setting < 5; setting++) {
            add(hash, yard.setting(setting));
        }
        for (int number = 0; number < yard.count(5); number++) {
            add(hash, yard.day(number, 0));
        }
        for (int house = 0; house < yard.count(0); house++) {
            addHouse(hash, yard, house);
        }
        for (int trade = 0; trade < 4; trade++) {
            for (int what = 0; what <= 5; what++) {
                add(hash, yard.trade(trade, what));
            }
        }
        for (int number = yard.count(4); number < yard.count(4) + 10; number++) {
            add(hash, yard.day(number, 1));
            add(hash, yard.day(number, 2));
        }
        add(hash, yard.ends());
        add(hash, yard.worstTrade());
        add(hash, yard.ifPassed(10, ModuleYard.NONE));
        add(hash, Double.doubleToLongBits(yard.heldShare()));
        add(hash, codes.length);
        for (int code : codes) {
            add(hash, code);
        }
        return hash[0];
    }

    private static void addHouse(long[] hash, ModuleYard yard, int house) {
        for (int what = 0; what <= 6; what++) {
            add(hash, yard.house(house, what));
        }
        for (int module = 0; module < yard.house(house, 0); module++) {
            for (int what = 0; what <= 8; what++) {
                add(hash, yard.module(house, module, what));
            }
            for (int trade = 0; trade < 4; trade++) {
                add(hash, yard.share(house, module, trade, 0));
                add(hash, yard.share(house, module, trade, 1));
            }
        }
        add(hash, yard.bestDay(house));
    }

    private static void add(long[] hash, long value) {
        hash[0] = 31 * hash[0] + value;
    }
}
