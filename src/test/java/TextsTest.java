/** Promises 10 to 15: append, clearBuffer, firstError, addHouse, setWinds, undo. */
public final class TextsTest {
    public static void main(String[] args) {
        append();
        clearBuffer();
        houseErrors();
        windErrors();
        addHouse();
        setWinds();
        undo();
        Script.close();
    }

    private static void append() {
        Script.run("promise 10", """
                append(33) = 1
                append(126) = 2
                append(32) throws IllegalArgument
                append(127) throws IllegalArgument
                append(-1) throws IllegalArgument
                append(2147483647) throws IllegalArgument
                append(-2147483648) throws IllegalArgument
                clearBuffer() = 2
                count(12) = 0
                """);
        StringBuilder full = new StringBuilder();
        for (int length = 1; length <= 60; length++) {
            full.append("append(65) = ").append(length).append('\n');
        }
        Script.run("promise 10: a full buffer", full + """
                append(65) throws IllegalState
                append(32) throws IllegalArgument
                append(127) throws IllegalArgument
                clearBuffer() = 60
                append(65) = 1
                """);
    }

    private static void clearBuffer() {
        Script.run("promise 11", """
                clearBuffer() = 0
                append(49) = 1
                append(50) = 2
                clearBuffer() = 2
                clearBuffer() = 0
                count(12) = 0
                """);
    }

    /** Each row: a text, its first error, and 1 if it is complete. */
    private static void houseErrors() {
        Object[][] rows = {
            {"", 0, 0}, {"1", 1, 0}, {"3", 1, 0}, {"0", 0, 0}, {"4", 0, 0}, {":", 0, 0}, {",", 0, 0},
            {"1:", 2, 0}, {"11", 1, 0}, {"1,", 1, 0}, {"1:0", 2, 0}, {"1:,", 2, 0}, {"1::", 2, 0},
            {"1:1", 3, 1}, {"2:9", 3, 1}, {"3:9999", 6, 1}, {"1:10", 4, 1}, {"1:1000", 6, 1},
            {"1:10000", 6, 0}, {"1:99990", 6, 0}, {"1:1:", 3, 0}, {"1:1a", 3, 0}, {"1:1*2", 3, 0},
            {"1:1,", 4, 0}, {"1:1,0", 4, 0}, {"1:1,2", 5, 0}, {"1:1,2:3", 7, 1}, {"1:1,,", 4, 0},
            {"1:1,2:3,3:9999", 14, 1}, {"~", 0, 0}, {"1:/", 2, 0}, {"1:1/", 3, 0},
            {"1:1,1:1,1:1,1:1,1:1,1:1", 23, 1},
            {"1:1,1:1,1:1,1:1,1:1,1:1,", 23, 0},
            {"1:1,1:1,1:1,1:1,1:1,1:1,1:1", 23, 0},
            {"1:9999,1:9999,1:9999,1:9999,1:9999,1:9999", 41, 1},
            {"1:9999,1:9999,1:9999,1:9999,1:9999,1:9999,", 41, 0},
            {"1:9999,1:9999,1:9999,1:9999,1:9999,1:99999", 41, 0},
        };
        for (Object[] row : rows) {
            Script.run("promise 12: house " + row[0], "text " + row[0] + "\nfirstError(true) = " + row[1] + "\n"
                    + "addHouse() " + (row[2].equals(1) ? "= 0" : "throws IllegalArgument") + "\n");
        }
    }

    /** Each row: a text, its first error, and the winds if it is complete, else 0. */
    private static void windErrors() {
        Object[][] rows = {
            {"", 0, 0}, {"0", 1, 1}, {"9", 1, 1}, {"a", 0, 0}, {",", 0, 0}, {"*", 0, 0}, {"12", 1, 0},
            {"1:", 1, 0}, {"1*", 2, 0}, {"1*0", 2, 0}, {"1*1", 3, 0}, {"1*2", 3, 2}, {"1*9", 3, 9},
            {"1*,", 2, 0}, {"1**", 2, 0}, {"1*1,", 3, 0}, {"1*1*", 3, 0}, {"1*10", 4, 10}, {"1*19", 4, 19},
            {"1*59", 4, 59}, {"1*60", 4, 60}, {"1*61", 3, 0}, {"1*69", 3, 0}, {"1*70", 3, 0}, {"1*99", 3, 0},
            {"1*600", 4, 0}, {"1*100", 4, 0}, {"1*20", 4, 20}, {"1*200", 4, 0}, {"1*02", 2, 0}, {"1*6", 3, 6},
            {"1,", 2, 0}, {"1,2", 3, 2}, {"1,2*3,4", 7, 5}, {"1*2*3", 3, 0}, {"1*2,", 4, 0}, {"1*2,*", 4, 0},
            {"1*2,3", 5, 3}, {"1*30,2*30", 9, 60}, {"1*2/", 3, 0}, {"/", 0, 0}, {":", 0, 0},
        };
        for (Object[] row : rows) {
            Script.run("promise 12: winds " + row[0], "text " + row[0] + "\nfirstError(false) = " + row[1] + "\n"
                    + "setWinds() " + (row[2].equals(0) ? "throws IllegalArgument" : "= " + row[2]) + "\n");
        }
        String sixty = "1,".repeat(30);
        Script.run("promise 12: texts of any length", "text " + sixty + "\nfirstError(false) = 60\n"
                + "setWinds() throws IllegalArgument\n");
        Script.run("promise 12: 59 characters", "text " + sixty.substring(0, 59) + "\nfirstError(false) = 59\n"
                + "setWinds() = 30\n");
        Script.run("promise 12: the rest is not read", "text 1,2" + "x".repeat(57) + "\nfirstError(false) = 3\n"
                + "firstError(true) = 1\n");
    }

    private static void addHouse() {
        Script.run("promise 13", """
                text 3:9999,1:1,2:20
                addHouse() = 0
                clearBuffer() = 0
                count(0) = 1
                count(1) = 3
                house(0, 0) = 3
                house(0, 3) = 10020
                module(0, 0, 0) = 3
                module(0, 0, 1) = 9999
                module(0, 1, 0) = 1
                module(0, 1, 1) = 1
                module(0, 2, 0) = 2
                module(0, 2, 1) = 20
                module(0, 3, 0) throws IndexOutOfBounds
                count(12) = 1
                addHouse() throws IllegalArgument
                text 1:5
                addHouse() = 1
                module(1, 1, 0) throws IndexOutOfBounds
                house(1, 3) = 5
                """);
        Script.run("promise 13: what throws keeps the buffer", """
                text 1:5,
                addHouse() throws IllegalArgument
                append(50) = 5
                append(58) = 6
                append(55) = 7
                addHouse() = 0
                house(0, 3) = 12
                """);
        Script.run("promise 13: six houses", """
                text 1:1
                addHouse() = 0
                text 1:2
                addHouse() = 1
                text 1:3
                addHouse() = 2
                text 1:4
                addHouse() = 3
                text 1:5
                addHouse() = 4
                text 1:6
                addHouse() = 5
                addHouse() throws IllegalArgument
                text 1:0
                addHouse() throws IllegalArgument
                text 1:7
                addHouse() throws IllegalState
                clearBuffer() = 3
                count(0) = 6
                count(12) = 6
                text 1:8
                undo() = 5
                addHouse() = 5
                house(5, 3) = 8
                """);
        Script.run("promise 13: a house that comes behind an undone longer one", """
                text 3:9,3:9,3:9
                addHouse() = 0
                book(0, 0) = 0
                undo() = 1
                undo() = 0
                count(0) = 0
                count(1) = 0
                house(0, 0) throws IndexOutOfBounds
                text 1:2
                addHouse() = 0
                count(1) = 1
                house(0, 0) = 1
                house(0, 1) = 0
                house(0, 3) = 2
                """);
    }

    private static void setWinds() {
        Script.run("promise 14", """
                text 3*2,5,0*3,9,4
                setWinds() = 8
                clearBuffer() = 0
                count(5) = 8
                day(0, 0) = 3
                day(1, 0) = 3
                day(2, 0) = 5
                day(3, 0) = 0
                day(5, 0) = 0
                day(6, 0) = 9
                day(7, 0) = 4
                day(8, 0) = 3
                day(9999, 0) = 4
                count(12) = 1
                undo() = 0
                count(5) = 1
                day(2, 0) = 3
                """);
        Script.run("promise 14: more than 60", """
                text 1*60,2
                firstError(false) = 6
                setWinds() throws IllegalState
                clearBuffer() = 6
                text 1*60,2*60,3*60,4*60,5*60,6*60,7*60,8*60,9*60,0*60,1*60,2*60
                setWinds() throws IllegalState
                text 1*60,2,
                setWinds() throws IllegalArgument
                text 1*58,7,8
                setWinds() = 60
                day(57, 0) = 1
                day(58, 0) = 7
                day(59, 0) = 8
                day(60, 0) = 1
                setWinds() throws IllegalArgument
                text 1:5
                setWinds() throws IllegalArgument
                count(12) = 1
                """);
    }

    private static void undo() {
        Script.run("promise 15", """
                undo() throws IllegalState
                set(0, 1) = 2
                undo() = 0
                setting(0) = 2
                undo() throws IllegalState
                set(0, 1) = 2
                set(0, 2) = 1
                set(0, 3) = 2
                count(12) = 3
                undo() = 2
                setting(0) = 2
                undo() = 1
                setting(0) = 1
                """);
        Script.run("promise 15: at most 6, the oldest one is dropped", """
                set(3, 1) = 20
                set(3, 2) = 1
                set(3, 3) = 2
                set(3, 4) = 3
                set(3, 5) = 4
                set(3, 6) = 5
                set(3, 7) = 6
                set(3, 8) = 7
                count(12) = 6
                undo() = 5
                setting(3) = 7
                undo() = 4
                set(3, 50) = 6
                count(12) = 5
                set(3, 51) = 50
                set(3, 52) = 51
                count(12) = 6
                undo() = 5
                undo() = 4
                undo() = 3
                setting(3) = 6
                undo() = 2
                setting(3) = 5
                undo() = 1
                undo() = 0
                setting(3) = 3
                undo() throws IllegalState
                """);
        Script.run("promise 15: the buffer stays", """
                text 1:7
                addHouse() = 0
                text 2,3
                undo() = 0
                count(0) = 0
                firstError(false) = 3
                setWinds() = 2
                text 1:7
                undo() = 0
                addHouse() = 0
                """);
        Script.run("promise 15: each that does not throw saves, also if it changes nothing", """
                text 1:1000
                addHouse() = 0
                set(4, 0) = 5
                set(4, 0) = 0
                count(12) = 3
                book(0, 0) = 0
                unbook(0) = 0
                book(0, 0) = 0
                count(12) = 6
                undo() = 5
                undo() = 4
                undo() = 3
                book(0, 0) = 0
                pass(1) = 1
                inspect(0, 0, 0, 1) = 1
                count(12) = 6
                undo() = 5
                undo() = 4
                count(4) = 0
                module(0, 0, 2) = 1
                pass(1) = 1
                inspect(0, 0, 0, 2) = 2
                undo() = 5
                share(0, 0, 0, 1) = 0
                trade(0, 4) = 0
                inspect(0, 0, 0, 3) = 3
                fix(0, 0, 0, 1) = 20
                undo() = 5
                share(0, 0, 0, 0) = 25
                share(0, 0, 0, 1) = 3
                trade(1, 0) = 0
                trade(1, 5) = 0
                trade(0, 1) = 0
                module(0, 0, 6) = 0
                claim(0, 0, 2, 3, 25) = 0
                undo() = 5
                share(0, 0, 3, 0) = 25
                release(0, 0) = 75
                undo() = 5
                module(0, 0, 4) = 900
                release(0, 0) = 75
                release(0, 0) = 0
                count(12) = 6
                """);
        Script.run("promise 15: moves and the order of booking come back", """
                text 1:1,1:2
                addHouse() = 0
                text 1:3
                addHouse() = 1
                text 9
                setWinds() = 1
                book(1, 0) = 0
                book(0, 0) = 0
                pass(3) = 0
                count(11) = 6
                undo() = 5
                count(11) = 0
                unbook(1) = 0
                book(1, 0) = 0
                undo() = 5
                undo() = 4
                set(0, 1) = 2
                pass(1) = 0
                module(1, 0, 3) = 1
                module(0, 0, 3) = 2
                """);
    }
}
