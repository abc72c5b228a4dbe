/** Promises 1 to 5: a new object, book, unbook, set, pass. */
public final class SlotsTest {
    private static final String ONE_HOUSE = """
            text 1:100,2:203,3:999,1:40
            addHouse() = 0
            """;
    private static final String TWO_HOUSES = ONE_HOUSE + """
            text 2:50,2:51
            addHouse() = 1
            """;
    private static final String THREE_HOUSES = TWO_HOUSES + """
            text 3:7,1:8
            addHouse() = 2
            """;

    public static void main(String[] args) {
        newObject();
        book();
        bookThrows();
        room();
        unbook();
        set();
        passSets();
        passMoves();
        passThrows();
        Script.close();
    }

    private static void newObject() {
        StringBuilder lines = new StringBuilder();
        for (int what = 0; what <= 12; what++) {
            lines.append("count(").append(what).append(") = ").append(what == 5 ? 1 : 0).append('\n');
        }
        for (int trade = 0; trade < 4; trade++) {
            for (int what = 0; what <= 5; what++) {
                lines.append("trade(").append(trade).append(", ").append(what).append(") = 0\n");
            }
        }
        Script.run("promise 1", lines + """
                setting(0) = 2
                setting(1) = 5
                setting(2) = 10
                setting(3) = 20
                setting(4) = 5
                day(0, 0) = 3
                day(9999, 0) = 3
                house(0, 0) throws IndexOutOfBounds
                undo() throws IllegalState
                clearBuffer() = 0
                """);
    }

    private static void book() {
        Script.run("promise 2: one by one, and never earlier than the one ahead", ONE_HOUSE + """
                book(0, 3) = 0
                module(0, 0, 2) = 1
                module(0, 0, 3) = 3
                module(0, 1, 3) = -1
                book(0, 2) throws IllegalState
                book(0, 3) = 1
                book(0, 999) = 2
                book(0, 998) throws IllegalState
                book(0, 999) = 3
                book(0, 999) throws IllegalState
                house(0, 1) = 4
                house(0, 6) = 999
                count(2) = 4
                count(12) = 5
                """);
        Script.run("promise 2: the module ahead is set", ONE_HOUSE + """
                book(0, 0) = 0
                pass(1) = 1
                book(0, 0) throws IllegalArgument
                book(0, 1) = 1
                pass(1) = 1
                module(0, 1, 3) = 1
                """);
    }

    private static void bookThrows() {
        Script.run("promise 2: throws", ONE_HOUSE + """
                book(-1, 0) throws IndexOutOfBounds
                book(1, 0) throws IndexOutOfBounds
                book(1, -1) throws IndexOutOfBounds
                book(2147483647, 2147483647) throws IndexOutOfBounds
                book(-2147483648, 0) throws IndexOutOfBounds
                book(0, -1) throws IllegalArgument
                book(0, 1000) throws IllegalArgument
                book(0, -2147483648) throws IllegalArgument
                book(0, 2147483647) throws IllegalArgument
                book(0, 999) = 0
                book(0, 999) = 1
                book(0, 998) throws IllegalState
                count(12) = 3
                """);
        Script.run("promise 2: the day is looked at ahead of the modules", """
                text 1:1
                addHouse() = 0
                book(0, 5) = 0
                book(0, 1000) throws IllegalArgument
                book(0, -1) throws IllegalArgument
                book(0, 5) throws IllegalState
                pass(3) = 0
                book(0, 2) throws IllegalArgument
                """);
        Script.run("promise 2: the last days", """
                text 1:1,1:2
                addHouse() = 0
                pass(60) = 0
                pass(60) = 0
                pass(60) = 0
                pass(60) = 0
                pass(60) = 0
                pass(60) = 0
                pass(60) = 0
                pass(60) = 0
                pass(60) = 0
                pass(60) = 0
                pass(60) = 0
                pass(60) = 0
                pass(60) = 0
                pass(60) = 0
                pass(60) = 0
                pass(60) = 0
                pass(39) = 0
                count(4) = 999
                book(0, 998) throws IllegalArgument
                book(0, 999) = 0
                pass(1) = 1
                count(4) = 1000
                book(0, 999) throws IllegalArgument
                book(0, 1000) throws IllegalArgument
                """);
    }

    private static void room() {
        Script.run("Slots: the road", THREE_HOUSES + """
                book(0, 4) = 0
                book(1, 4) = 0
                book(2, 4) throws IllegalState
                book(2, 5) = 0
                set(0, 3) = 2
                set(1, 9) = 5
                book(0, 4) = 1
                book(1, 4) throws IllegalState
                book(1, 5) = 1
                """);
        Script.run("Slots: the crane, exactly full and one too much", THREE_HOUSES + """
                set(0, 3) = 2
                book(1, 4) = 0
                book(2, 4) = 0
                book(0, 4) throws IllegalState
                set(1, 6) = 5
                book(0, 4) = 0
                day(4, 1) = 3
                day(4, 2) = 6
                """);
        Script.run("Slots: the day 0", THREE_HOUSES + """
                book(0, 0) = 0
                book(1, 0) = 0
                book(0, 0) throws IllegalState
                day(0, 1) = 2
                day(0, 2) = 3
                bestDay(0) = 1
                """);
        Script.run("Slots: less room than is taken", TWO_HOUSES + """
                book(0, 4) = 0
                book(1, 4) = 0
                set(0, 1) = 2
                day(4, 1) = 2
                book(0, 4) throws IllegalState
                unbook(1) = 4
                book(1, 4) throws IllegalState
                set(0, 2) = 1
                book(1, 4) = 0
                """);
    }

    private static void unbook() {
        Script.run("promise 3", ONE_HOUSE + """
                unbook(-1) throws IndexOutOfBounds
                unbook(1) throws IndexOutOfBounds
                unbook(0) throws IllegalState
                book(0, 2) = 0
                book(0, 7) = 1
                unbook(0) = 7
                module(0, 1, 2) = 0
                module(0, 1, 3) = -1
                house(0, 1) = 1
                house(0, 6) = 2
                unbook(0) = 2
                house(0, 6) = -1
                unbook(0) throws IllegalState
                count(2) = 0
                count(12) = 5
                day(7, 1) = 0
                day(7, 2) = 0
                """);
        Script.run("promise 3: what is set stays", ONE_HOUSE + """
                book(0, 0) = 0
                book(0, 1) = 1
                pass(1) = 1
                unbook(0) = 1
                unbook(0) throws IllegalState
                house(0, 1) = 1
                house(0, 2) = 1
                """);
        Script.run("promise 3: how often it was moved stays", ONE_HOUSE + """
                text 9
                setWinds() = 1
                book(0, 0) = 0
                pass(2) = 0
                module(0, 0, 8) = 2
                unbook(0) = 2
                module(0, 0, 8) = 2
                count(11) = 2
                book(0, 5) = 0
                pass(4) = 0
                module(0, 0, 8) = 3
                module(0, 0, 3) = 6
                """);
        Script.run("promise 3: its place in the order of booking is lost", TWO_HOUSES + """
                text 9,3
                setWinds() = 2
                set(0, 3) = 2
                book(0, 0) = 0
                book(1, 0) = 0
                unbook(0) = 0
                book(0, 0) = 0
                set(0, 1) = 3
                pass(1) = 0
                module(1, 0, 3) = 1
                module(0, 0, 3) = 2
                """);
    }

    private static void set() {
        int[] lowest = {1, 3, 0, 1, 0};
        int[] highest = {3, 9, 30, 100, 30};
        int[] atFirst = {2, 5, 10, 20, 5};
        for (int i = 0; i < 5; i++) {
            String head = "set(" + i + ", ";
            Script.run("promise 4", ""
                    + head + (lowest[i] - 1) + ") throws IllegalArgument\n"
                    + head + (highest[i] + 1) + ") throws IllegalArgument\n"
                    + head + "2147483647) throws IllegalArgument\n"
                    + head + "-2147483648) throws IllegalArgument\n"
                    + "count(12) = 0\n"
                    + head + lowest[i] + ") = " + atFirst[i] + "\n"
                    + "setting(" + i + ") = " + lowest[i] + "\n"
                    + head + highest[i] + ") = " + lowest[i] + "\n"
                    + head + highest[i] + ") = " + highest[i] + "\n"
                    + "setting(" + i + ") = " + highest[i] + "\n"
                    + "count(12) = 3\n"
                    + "undo() = 2\nundo() = 1\nundo() = 0\n"
                    + "setting(" + i + ") = " + atFirst[i] + "\n");
        }
        Script.run("promise 4: throws", """
                set(-1, 0) throws IndexOutOfBounds
                set(5, 5) throws IndexOutOfBounds
                set(5, -1) throws IndexOutOfBounds
                set(-2147483648, 0) throws IndexOutOfBounds
                set(2147483647, 0) throws IndexOutOfBounds
                """);
        Script.run("promise 4: what is held stays", ONE_HOUSE + """
                book(0, 0) = 0
                pass(1) = 1
                set(2, 30) = 10
                module(0, 0, 5) = 10
                book(0, 1) = 1
                pass(1) = 1
                module(0, 1, 5) = 60
                """);
    }

    private static void passSets() {
        Script.run("promise 5: set, paid and held", ONE_HOUSE + """
                book(0, 0) = 0
                book(0, 1) = 1
                pass(1) = 1
                module(0, 0, 2) = 2
                module(0, 0, 3) = 0
                module(0, 0, 4) = 90
                module(0, 0, 5) = 10
                share(0, 0, 0, 0) = 3
                share(0, 0, 1, 0) = 3
                share(0, 0, 2, 0) = 2
                share(0, 0, 3, 0) = 2
                count(4) = 1
                count(2) = 1
                count(3) = 1
                pass(1) = 1
                module(0, 1, 4) = 183
                module(0, 1, 5) = 20
                share(0, 1, 0, 0) = 5
                share(0, 1, 3, 0) = 5
                day(0, 3) = 1
                day(1, 3) = 1
                count(12) = 5
                """);
        Script.run("promise 5: days and undo as one call", ONE_HOUSE + """
                book(0, 0) = 0
                book(0, 1) = 1
                pass(60) = 2
                count(4) = 60
                undo() = 3
                count(4) = 0
                count(3) = 0
                count(2) = 2
                pass(2) = 2
                """);
        for (int weight = 1; weight <= 3; weight++) {
            for (int wind = 0; wind <= 9; wind++) {
                int lifted = wind <= 8 - 2 * weight ? 1 : 0;
                Script.run("wind " + wind + ", weight " + weight,
                        "text " + weight + ":100\naddHouse() = 0\ntext " + wind + "\nsetWinds() = 1\n"
                        + "book(0, 0) = 0\npass(1) = " + lifted + "\nmodule(0, 0, 3) = " + (1 - lifted) + "\n");
            }
        }
        Script.run("one that waits for the module ahead of it", """
                text 3:100,1:50
                addHouse() = 0
                text 5,2
                setWinds() = 2
                book(0, 0) = 0
                book(0, 0) = 1
                pass(1) = 0
                house(0, 2) = 0
                module(0, 0, 3) = 1
                module(0, 1, 3) = 1
                module(0, 0, 8) = 1
                module(0, 1, 8) = 1
                pass(1) = 2
                """);
    }

    private static void passMoves() {
        Script.run("all behind are moved", TWO_HOUSES + """
                text 5,3
                setWinds() = 2
                set(0, 1) = 2
                book(1, 0) = 0
                book(0, 1) = 0
                book(0, 2) = 1
                book(1, 5) = 1
                pass(1) = 0
                module(1, 0, 3) = 1
                module(0, 0, 3) = 2
                module(0, 1, 3) = 3
                module(1, 1, 3) = 5
                module(1, 0, 8) = 1
                module(0, 0, 8) = 1
                module(0, 1, 8) = 1
                module(1, 1, 8) = 0
                count(11) = 3
                """);
        Script.run("none is moved if all were set", TWO_HOUSES + """
                book(0, 0) = 0
                book(0, 3) = 1
                book(1, 3) = 0
                set(0, 1) = 2
                pass(1) = 1
                day(3, 1) = 2
                count(11) = 0
                """);
        Script.run("those of later days too are moved for less room", TWO_HOUSES + """
                text 9
                setWinds() = 1
                book(0, 0) = 0
                book(0, 3) = 1
                book(1, 3) = 0
                set(0, 1) = 2
                pass(1) = 0
                module(0, 0, 3) = 1
                module(0, 1, 3) = 3
                module(1, 0, 3) = 4
                count(11) = 2
                """);
        Script.run("in the order of the days, then of booking", TWO_HOUSES + """
                text 9
                setWinds() = 1
                book(1, 2) = 0
                book(0, 0) = 0
                book(0, 2) = 1
                set(0, 1) = 2
                pass(1) = 0
                module(0, 0, 3) = 1
                module(1, 0, 3) = 2
                module(0, 1, 3) = 3
                pass(1) = 0
                module(0, 0, 3) = 2
                module(1, 0, 3) = 3
                module(0, 1, 3) = 4
                pass(1) = 0
                module(0, 0, 3) = 3
                module(1, 0, 3) = 4
                module(0, 1, 3) = 5
                """);
        Script.run("a light one goes by a heavy one, not by the one ahead of it", """
                text 3:10,1:10
                addHouse() = 0
                text 3:20
                addHouse() = 1
                text 1:30
                addHouse() = 2
                text 9
                setWinds() = 1
                set(1, 4) = 5
                book(0, 0) = 0
                book(1, 1) = 0
                book(2, 2) = 0
                book(0, 2) = 1
                pass(1) = 0
                module(0, 0, 3) = 1
                module(1, 0, 3) = 2
                module(2, 0, 3) = 2
                module(0, 1, 3) = 3
                """);
        Script.run("days above 999", """
                text 3:10,3:10
                addHouse() = 0
                text 9
                setWinds() = 1
                set(0, 1) = 2
                book(0, 0) = 0
                book(0, 999) = 1
                pass(60) = 0
                pass(60) = 0
                pass(60) = 0
                pass(60) = 0
                pass(60) = 0
                pass(60) = 0
                pass(60) = 0
                pass(60) = 0
                pass(60) = 0
                pass(60) = 0
                pass(60) = 0
                pass(60) = 0
                pass(60) = 0
                pass(60) = 0
                pass(60) = 0
                pass(60) = 0
                pass(40) = 0
                count(4) = 1000
                module(0, 0, 3) = 1000
                module(0, 1, 3) = 1001
                house(0, 6) = 1001
                module(0, 0, 8) = 1000
                module(0, 1, 8) = 2
                unbook(0) = 1001
                book(0, 999) throws IllegalArgument
                pass(1) throws IllegalState
                text 2
                setWinds() = 1
                ends() = 1000
                ifPassed(1, 0) = 1
                """);
    }

    private static void passThrows() {
        Script.run("promise 5: throws", """
                pass(0) throws IllegalArgument
                pass(61) throws IllegalArgument
                pass(-1) throws IllegalArgument
                pass(2147483647) throws IllegalArgument
                pass(-2147483648) throws IllegalArgument
                """);
        Script.run("promise 5: the last day", "pass(60) = 0\n".repeat(16) + """
                count(4) = 960
                pass(41) throws IllegalState
                pass(60) throws IllegalState
                pass(61) throws IllegalArgument
                pass(40) = 0
                count(4) = 1000
                pass(1) throws IllegalState
                pass(0) throws IllegalArgument
                count(12) = 6
                """);
    }
}
