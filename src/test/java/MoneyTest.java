/** Promises 6 to 9: inspect, fix, claim, release; and Money of the terms. */
public final class MoneyTest {
    // Held is 10 percent of 2110: 211, in shares of 53, 53, 53 and 52.
    private static final String SET = """
            text 1:2110,1:40
            addHouse() = 0
            book(0, 0) = 0
            pass(1) = 1
            """;

    public static void main(String[] args) {
        shares();
        inspect();
        fix();
        claim();
        release();
        Script.close();
    }

    private static void shares() {
        int[][] cases = {
            {1, 10, 0}, {9, 10, 0}, {10, 10, 1}, {39, 10, 3}, {40, 10, 4}, {70, 10, 7},
            {9999, 30, 2999}, {9999, 0, 0}, {199, 1, 1}, {100, 30, 30}, {9999, 29, 2899},
        };
        for (int[] row : cases) {
            StringBuilder lines = new StringBuilder();
            lines.append("text 1:").append(row[0]).append("\naddHouse() = 0\nset(2, ").append(row[1]).append(") = 10\n");
            lines.append("book(0, 0) = 0\npass(1) = 1\n");
            lines.append("module(0, 0, 4) = ").append(row[0] - row[2]).append('\n');
            lines.append("module(0, 0, 5) = ").append(row[2]).append('\n');
            for (int trade = 0; trade < 4; trade++) {
                int share = row[2] / 4 + (trade < row[2] % 4 ? 1 : 0);
                lines.append("share(0, 0, ").append(trade).append(", 0) = ").append(share).append('\n');
            }
            Script.run("shares of " + row[2], lines.toString());
        }
    }

    private static void inspect() {
        Script.run("promise 6", SET + """
                inspect(0, 0, 2, 9) = 9
                inspect(0, 0, 2, 1) = 10
                inspect(0, 0, 3, 4) = 4
                share(0, 0, 2, 1) = 10
                share(0, 0, 3, 1) = 4
                share(0, 0, 0, 1) = 0
                module(0, 0, 7) = 14
                house(0, 4) = 14
                trade(2, 2) = 10
                trade(2, 4) = 10
                count(10) = 14
                fix(0, 0, 2, 2) = 0
                inspect(0, 0, 2, 1) = 10
                trade(2, 4) = 11
                undo() = 5
                trade(2, 4) = 10
                """);
        Script.run("promise 6: 99 open snags", SET + """
                inspect(0, 0, 0, 9) = 9
                inspect(0, 0, 0, 9) = 18
                inspect(0, 0, 0, 9) = 27
                inspect(0, 0, 0, 9) = 36
                inspect(0, 0, 0, 9) = 45
                inspect(0, 0, 0, 9) = 54
                inspect(0, 0, 0, 9) = 63
                inspect(0, 0, 0, 9) = 72
                inspect(0, 0, 0, 9) = 81
                inspect(0, 0, 0, 9) = 90
                inspect(0, 0, 0, 8) = 98
                inspect(0, 0, 0, 2) throws IllegalState
                inspect(0, 0, 0, 1) = 99
                inspect(0, 0, 0, 1) throws IllegalState
                inspect(0, 0, 0, 10) throws IllegalArgument
                inspect(0, 0, 1, 1) = 1
                module(0, 0, 7) = 100
                house(0, 4) = 100
                count(10) = 100
                """);
        Script.run("promise 6: throws", SET + """
                inspect(-1, 0, 0, 1) throws IndexOutOfBounds
                inspect(1, 0, 0, 1) throws IndexOutOfBounds
                inspect(0, -1, 0, 1) throws IndexOutOfBounds
                inspect(0, 2, 0, 1) throws IndexOutOfBounds
                inspect(0, 0, -1, 1) throws IndexOutOfBounds
                inspect(0, 0, 4, 1) throws IndexOutOfBounds
                inspect(0, 0, 4, 0) throws IndexOutOfBounds
                inspect(0, 0, 0, 0) throws IllegalArgument
                inspect(0, 0, 0, 10) throws IllegalArgument
                inspect(0, 1, 0, 0) throws IllegalArgument
                inspect(0, 1, 0, 1) throws IllegalState
                book(0, 1) = 1
                inspect(0, 1, 0, 1) throws IllegalState
                count(12) = 4
                """);
    }

    private static void fix() {
        Script.run("promise 7", SET + """
                inspect(0, 0, 1, 5) = 5
                fix(0, 0, 1, 1) = 0
                share(0, 0, 1, 1) = 4
                share(0, 0, 1, 0) = 53
                trade(1, 5) = 0
                fix(0, 0, 1, 3) = 20
                share(0, 0, 1, 0) = 33
                share(0, 0, 3, 0) = 52
                module(0, 0, 5) = 191
                module(0, 0, 6) = 20
                module(0, 0, 4) = 1899
                fix(0, 0, 1, 0) = 20
                fix(0, 0, 1, 3) = 13
                share(0, 0, 1, 0) = 0
                fix(0, 0, 1, 3) = 0
                fix(0, 0, 1, 3) throws IllegalState
                trade(3, 0) = 33
                trade(0, 0) = 20
                trade(1, 1) = 53
                trade(3, 5) = 3
                trade(0, 5) = 1
                trade(1, 5) = 0
                count(9) = 53
                count(10) = 0
                trade(1, 4) = 5
                """);
        Script.run("promise 7: the cost", SET + """
                set(3, 53) = 20
                inspect(0, 0, 1, 1) = 1
                fix(0, 0, 1, 2) = 53
                set(3, 1) = 53
                inspect(0, 0, 3, 1) = 1
                fix(0, 0, 3, 2) = 1
                trade(2, 0) = 54
                """);
        Script.run("promise 7: the cost is that of the day on which it is fixed", SET + """
                inspect(0, 0, 1, 3) = 3
                set(3, 7) = 20
                fix(0, 0, 1, 2) = 7
                set(3, 9) = 7
                pass(1) = 0
                fix(0, 0, 1, 2) = 9
                undo() = 5
                undo() = 4
                undo() = 3
                fix(0, 0, 1, 0) = 7
                share(0, 0, 1, 0) = 39
                """);
        Script.run("promise 7: throws", SET + """
                inspect(0, 0, 1, 1) = 1
                fix(-1, 0, 1, 1) throws IndexOutOfBounds
                fix(1, 0, 1, 1) throws IndexOutOfBounds
                fix(0, -1, 1, 1) throws IndexOutOfBounds
                fix(0, 2, 1, 1) throws IndexOutOfBounds
                fix(0, 0, -1, 1) throws IndexOutOfBounds
                fix(0, 0, 4, 1) throws IndexOutOfBounds
                fix(0, 0, 1, -1) throws IndexOutOfBounds
                fix(0, 0, 1, 4) throws IndexOutOfBounds
                fix(0, 0, 2, 4) throws IndexOutOfBounds
                fix(0, 0, 2, 1) throws IllegalState
                fix(0, 1, 1, 1) throws IllegalState
                count(12) = 4
                """);
    }

    private static void claim() {
        Script.run("promise 8", SET + """
                claim(0, 0, 3, 0, 50) = 3
                claim(0, 0, 2, 0, 4) throws IllegalState
                claim(0, 0, 2, 0, 3) = 0
                claim(0, 0, 2, 0, 1) throws IllegalState
                share(0, 0, 0, 0) = 0
                share(0, 0, 3, 0) = 52
                module(0, 0, 5) = 158
                module(0, 0, 6) = 53
                trade(3, 0) = 50
                trade(2, 0) = 3
                trade(0, 1) = 53
                trade(0, 0) = 0
                trade(2, 5) = 0
                count(8) = 158
                count(9) = 53
                count(7) = 1899
                house(0, 5) = 158
                """);
        Script.run("promise 8: throws", SET + """
                claim(-1, 0, 1, 0, 1) throws IndexOutOfBounds
                claim(1, 0, 1, 0, 1) throws IndexOutOfBounds
                claim(0, -1, 1, 0, 1) throws IndexOutOfBounds
                claim(0, 2, 1, 0, 1) throws IndexOutOfBounds
                claim(0, 0, -1, 0, 1) throws IndexOutOfBounds
                claim(0, 0, 4, 0, 1) throws IndexOutOfBounds
                claim(0, 0, 1, -1, 1) throws IndexOutOfBounds
                claim(0, 0, 1, 4, 1) throws IndexOutOfBounds
                claim(0, 0, 4, 4, 0) throws IndexOutOfBounds
                claim(0, 0, 1, 0, 0) throws IllegalArgument
                claim(0, 0, 1, 0, 10000) throws IllegalArgument
                claim(0, 0, 1, 0, -1) throws IllegalArgument
                claim(0, 0, 1, 0, 9999) throws IllegalState
                claim(0, 0, 1, 1, 1) throws IllegalArgument
                claim(0, 1, 1, 1, 1) throws IllegalArgument
                claim(0, 1, 1, 0, 1) throws IllegalState
                count(12) = 3
                """);
    }

    private static void release() {
        Script.run("promise 9: the wait", SET + """
                release(0, 0) throws IllegalState
                pass(3) = 0
                count(4) = 4
                release(0, 0) throws IllegalState
                pass(1) = 0
                release(0, 0) = 211
                module(0, 0, 4) = 2110
                module(0, 0, 5) = 0
                module(0, 0, 6) = 0
                share(0, 0, 0, 0) = 0
                release(0, 0) = 0
                module(0, 0, 4) = 2110
                count(12) = 6
                set(4, 30) = 5
                release(0, 0) throws IllegalState
                set(4, 0) = 30
                release(0, 0) = 0
                """);
        Script.run("promise 9: open snags hold a share back", SET + """
                set(4, 0) = 5
                inspect(0, 0, 1, 2) = 2
                inspect(0, 0, 3, 1) = 1
                claim(0, 0, 3, 0, 13) = 40
                release(0, 0) = 93
                share(0, 0, 0, 0) = 0
                share(0, 0, 1, 0) = 53
                share(0, 0, 2, 0) = 0
                share(0, 0, 3, 0) = 52
                module(0, 0, 4) = 1992
                fix(0, 0, 3, 3) = 0
                release(0, 0) = 52
                fix(0, 0, 1, 2) = 20
                release(0, 0) = 0
                fix(0, 0, 1, 1) = 0
                release(0, 0) = 33
                module(0, 0, 4) = 2077
                module(0, 0, 5) = 0
                module(0, 0, 6) = 33
                count(7) = 2077
                inspect(0, 0, 1, 1) = 1
                fix(0, 0, 1, 0) = 0
                trade(0, 5) = 1
                """);
        Script.run("promise 9: open snags of another module hold nothing back", SET + """
                set(4, 0) = 5
                book(0, 1) = 1
                pass(1) = 1
                inspect(0, 1, 1, 1) = 1
                release(0, 0) = 211
                release(0, 1) = 3
                share(0, 1, 1, 0) = 1
                """);
        Script.run("promise 9: throws", SET + """
                release(-1, 0) throws IndexOutOfBounds
                release(1, 0) throws IndexOutOfBounds
                release(0, -1) throws IndexOutOfBounds
                release(0, 2) throws IndexOutOfBounds
                set(4, 0) = 5
                release(0, 1) throws IllegalState
                book(0, 3) = 1
                release(0, 1) throws IllegalState
                count(12) = 5
                """);
    }
}
