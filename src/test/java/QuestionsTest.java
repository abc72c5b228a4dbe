/** Promises 16 to 22: house, module, share, trade, day, count, setting. */
public final class QuestionsTest {
    // House 0: two set, one booked, one not. House 1: one set. House 2: none booked.
    private static final String YARD = """
            text 1:1000,2:203,3:999,1:40
            addHouse() = 0
            text 2:500,2:51
            addHouse() = 1
            text 3:7
            addHouse() = 2
            text 3,4,2
            setWinds() = 3
            book(0, 0) = 0
            book(1, 0) = 0
            book(0, 1) = 1
            pass(2) = 3
            book(0, 6) = 2
            inspect(0, 0, 1, 3) = 3
            inspect(0, 1, 1, 2) = 2
            inspect(1, 0, 3, 4) = 4
            fix(0, 0, 1, 2) = 20
            claim(1, 0, 1, 0, 5) = 8
            """;

    public static void main(String[] args) {
        house();
        module();
        share();
        trade();
        day();
        count();
        setting();
        Script.close();
    }

    private static void house() {
        Script.run("promise 16", YARD + """
                house(0, 0) = 4
                house(0, 1) = 3
                house(0, 2) = 2
                house(0, 3) = 2242
                house(0, 4) = 4
                house(0, 5) = 100
                house(0, 6) = 6
                house(1, 0) = 2
                house(1, 1) = 1
                house(1, 2) = 1
                house(1, 3) = 551
                house(1, 4) = 4
                house(1, 5) = 45
                house(1, 6) = 0
                house(2, 0) = 1
                house(2, 1) = 0
                house(2, 2) = 0
                house(2, 3) = 7
                house(2, 4) = 0
                house(2, 5) = 0
                house(2, 6) = -1
                house(3, 0) throws IndexOutOfBounds
                house(-1, 0) throws IndexOutOfBounds
                house(3, 7) throws IndexOutOfBounds
                house(2147483647, 0) throws IndexOutOfBounds
                house(0, -1) throws IllegalArgument
                house(0, 7) throws IllegalArgument
                """);
    }

    private static void module() {
        Script.run("promise 17", YARD + """
                module(0, 0, 0) = 1
                module(0, 0, 1) = 1000
                module(0, 0, 2) = 2
                module(0, 0, 3) = 0
                module(0, 0, 4) = 900
                module(0, 0, 5) = 80
                module(0, 0, 6) = 20
                module(0, 0, 7) = 2
                module(0, 0, 8) = 0
                module(0, 1, 3) = 1
                module(0, 1, 5) = 20
                module(0, 1, 7) = 2
                module(0, 2, 0) = 3
                module(0, 2, 2) = 1
                module(0, 2, 3) = 6
                module(0, 2, 4) = 0
                module(0, 2, 5) = 0
                module(0, 3, 2) = 0
                module(0, 3, 3) = -1
                module(1, 0, 6) = 5
                module(0, 4, 0) throws IndexOutOfBounds
                module(0, -1, 0) throws IndexOutOfBounds
                module(1, 2, 0) throws IndexOutOfBounds
                module(3, 0, 0) throws IndexOutOfBounds
                module(-1, 0, 0) throws IndexOutOfBounds
                module(0, 4, 9) throws IndexOutOfBounds
                module(0, 2147483647, 0) throws IndexOutOfBounds
                module(0, 0, -1) throws IllegalArgument
                module(0, 0, 9) throws IllegalArgument
                """);
    }

    private static void share() {
        Script.run("promise 18", YARD + """
                share(0, 0, 0, 0) = 25
                share(0, 0, 1, 0) = 5
                share(0, 0, 1, 1) = 2
                share(0, 0, 2, 0) = 25
                share(1, 0, 0, 0) = 8
                share(1, 0, 1, 0) = 13
                share(1, 0, 2, 0) = 12
                share(1, 0, 3, 0) = 12
                share(1, 0, 3, 1) = 4
                share(0, 3, 0, 0) = 0
                share(0, 3, 0, 1) = 0
                share(3, 0, 0, 0) throws IndexOutOfBounds
                share(-1, 0, 0, 0) throws IndexOutOfBounds
                share(0, 4, 0, 0) throws IndexOutOfBounds
                share(0, -1, 0, 0) throws IndexOutOfBounds
                share(0, 0, 4, 0) throws IndexOutOfBounds
                share(0, 0, -1, 0) throws IndexOutOfBounds
                share(0, 0, 4, 2) throws IndexOutOfBounds
                share(0, 0, 0, 2) throws IllegalArgument
                share(0, 0, 0, -1) throws IllegalArgument
                """);
    }

    private static void trade() {
        Script.run("promise 19", YARD + """
                trade(0, 0) = 0
                trade(0, 1) = 5
                trade(0, 2) = 0
                trade(0, 3) = 38
                trade(0, 4) = 0
                trade(0, 5) = 0
                trade(1, 0) = 5
                trade(1, 1) = 20
                trade(1, 2) = 4
                trade(1, 3) = 23
                trade(1, 4) = 5
                trade(1, 5) = 0
                trade(2, 0) = 20
                trade(2, 1) = 0
                trade(2, 3) = 42
                trade(2, 5) = 1
                trade(3, 2) = 4
                trade(3, 3) = 42
                trade(3, 4) = 4
                trade(4, 0) throws IndexOutOfBounds
                trade(-1, 0) throws IndexOutOfBounds
                trade(4, 6) throws IndexOutOfBounds
                trade(0, 6) throws IllegalArgument
                trade(0, -1) throws IllegalArgument
                """);
    }

    private static void day() {
        Script.run("promise 20", YARD + """
                day(0, 0) = 3
                day(1, 0) = 4
                day(2, 0) = 2
                day(3, 0) = 3
                day(9998, 0) = 2
                day(9999, 0) = 3
                day(6, 1) = 1
                day(6, 2) = 3
                day(6, 3) = 0
                day(0, 1) = 0
                day(0, 2) = 0
                day(0, 3) = 2
                day(1, 3) = 1
                day(2, 3) = 0
                day(9999, 1) = 0
                day(1006, 1) = 0
                day(1006, 2) = 0
                day(1000, 3) = 0
                day(-1, 0) throws IllegalArgument
                day(10000, 0) throws IllegalArgument
                day(-2147483648, 0) throws IllegalArgument
                day(2147483647, 0) throws IllegalArgument
                day(0, -1) throws IllegalArgument
                day(0, 4) throws IllegalArgument
                """);
    }

    private static void count() {
        Script.run("promise 21", YARD + """
                count(0) = 3
                count(1) = 7
                count(2) = 1
                count(3) = 3
                count(4) = 2
                count(5) = 3
                count(6) = 1703
                count(7) = 1533
                count(8) = 145
                count(9) = 25
                count(10) = 8
                count(11) = 0
                count(12) = 6
                count(-1) throws IllegalArgument
                count(13) throws IllegalArgument
                count(2147483647) throws IllegalArgument
                """);
    }

    private static void setting() {
        Script.run("promise 22", """
                setting(0) = 2
                setting(1) = 5
                setting(2) = 10
                setting(3) = 20
                setting(4) = 5
                set(3, 33) = 20
                setting(3) = 33
                setting(-1) throws IndexOutOfBounds
                setting(5) throws IndexOutOfBounds
                setting(2147483647) throws IndexOutOfBounds
                setting(-2147483648) throws IndexOutOfBounds
                """);
    }
}
