/**
 * The sentences of the document that name a boundary case: each title is the
 * sentence, or its part, and the rows stand on either side of its boundary.
 */
public final class EdgesTest {
    private static final String LIGHT = "text 1:4000,1:203\naddHouse() = 0\n";
    private static final String HEAVY = "text 3:10,3:10\naddHouse() = 0\n";
    // Held is 30 percent of 9999: 2999, in shares of 750, 750, 750 and 749.
    private static final String DEAR = """
            text 1:9999,1:40
            addHouse() = 0
            set(2, 30) = 10
            book(0, 0) = 0
            pass(1) = 1
            """;

    public static void main(String[] args) {
        fullYard();
        stages();
        rowsOfWinds();
        windsThatGoRound();
        roads();
        cranes();
        passing();
        aheadOfItsHouse();
        moving();
        lastDays();
        farDays();
        snags();
        costs();
        claims();
        waits();
        forecasts();
        bestDays();
        worstTrades();
        heldShares();
        digests();
        lastCall();
        Script.close();
    }

    /** As many houses, modules, bookings, set modules and shares as there can be. */
    private static void fullYard() {
        StringBuilder lines = new StringBuilder("set(0, 3) = 2\nset(1, 9) = 5\nset(2, 30) = 10\n");
        for (int house = 0; house < 6; house++) {
            lines.append("text 1:9,1:9,1:9,1:9,1:9,1:9\naddHouse() = ").append(house).append('\n');
        }
        for (int module = 0; module < 6; module++) {
            for (int house = 0; house < 6; house++) {
                lines.append("book(").append(house).append(", ").append(2 * module + house / 3).append(") = ").append(module).append('\n');
            }
        }
        Script.run("a yard that is full: booked", lines + """
                book(0, 11) throws IllegalState
                book(5, 999) throws IllegalState
                bestDay(0) = -1
                bestDay(5) = -1
                count(1) = 36
                count(2) = 36
                day(11, 1) = 3
                day(12, 1) = 0
                ends() = 11
                ifPassed(11, NONE) = 33
                """);
        lines.append("pass(12) = 36\ntext 1:1\n");
        Script.run("a yard that is full: set", lines + """
                addHouse() throws IllegalState
                unbook(5) throws IllegalState
                house(5, 6) = 11
                count(0) = 6
                count(2) = 0
                count(3) = 36
                count(6) = 324
                count(7) = 252
                count(8) = 72
                trade(1, 3) = 36
                trade(2, 3) = 0
                ends() = -1
                """);
    }

    private static void stages() {
        Script.run("A module is not booked at first; then it can be booked for a day; then it can be set", LIGHT + """
                module(0, 0, 2) = 0
                module(0, 0, 3) = -1
                book(0, 0) = 0
                module(0, 0, 2) = 1
                module(0, 0, 3) = 0
                module(0, 1, 2) = 0
                unbook(0) = 0
                module(0, 0, 2) = 0
                module(0, 0, 3) = -1
                house(0, 6) = -1
                book(0, 0) = 0
                pass(1) = 1
                module(0, 0, 2) = 2
                module(0, 0, 3) = 0
                house(0, 6) = 0
                module(0, 1, 2) = 0
                """);
        Script.run("The modules of a house are booked, and set, in the order of their numbers", """
                text 2:10,1:10
                addHouse() = 0
                text 1:10
                addHouse() = 1
                text 5,4
                setWinds() = 2
                set(0, 3) = 2
                book(0, 0) = 0
                book(0, 0) = 1
                book(1, 0) = 0
                pass(1) = 1
                module(0, 1, 2) = 1
                module(1, 0, 2) = 2
                pass(1) = 2
                """);
    }

    private static void rowsOfWinds() {
        Script.run("There is a row of 1 to 60 winds, each 0 to 9, at first one wind of 3", """
                count(5) = 1
                day(0, 0) = 3
                day(1, 0) = 3
                day(9999, 0) = 3
                text
                setWinds() throws IllegalArgument
                text 0
                setWinds() = 1
                day(9999, 0) = 0
                text 9
                setWinds() = 1
                day(9999, 0) = 9
                text 1*60
                setWinds() = 60
                text 1*60,1
                setWinds() throws IllegalState
                text 1,1*60
                setWinds() throws IllegalState
                text 1*59,8
                setWinds() = 60
                text 1*59,8*2
                setWinds() throws IllegalState
                day(59, 0) = 8
                """);
    }

    private static void windsThatGoRound() {
        int[] days = {0, 1, 2, 59, 60, 61, 119, 120, 299, 300, 999, 1000, 9998, 9999};
        for (int length = 1; length <= 30; length++) {
            StringBuilder lines = new StringBuilder("text ");
            for (int i = 0; i < length; i++) {
                lines.append(i == 0 ? "" : ",").append(i * 7 % 10);
            }
            lines.append("\nsetWinds() = ").append(length).append('\n');
            for (int day : days) {
                lines.append("day(").append(day).append(", 0) = ").append(day % length * 7 % 10).append('\n');
            }
            for (int day : new int[] {length - 1, length, 2 * length - 1, 2 * length}) {
                lines.append("day(").append(day).append(", 0) = ").append(day % length * 7 % 10).append('\n');
            }
            Script.run("the wind of the day d is that at the place d modulo the length of the row: " + length, lines.toString());
        }
        Script.run("the wind of the day d: the first of 60, when the row goes round", HEAVY + """
                text 2,9*59
                setWinds() = 60
                pass(1) = 0
                bestDay(0) = 60
                book(0, 1) = 0
                ends() = 60
                ifPassed(59, 0) = 0
                ifPassed(60, 0) = 1
                pass(59) = 0
                module(0, 0, 3) = 60
                pass(1) = 1
                """);
    }

    private static void roads() {
        for (int road = 1; road <= 3; road++) {
            StringBuilder lines = new StringBuilder("text 1:1,1:1,1:1,1:1\naddHouse() = 0\nset(1, 9) = 5\nset(0, " + road + ") = 2\n");
            for (int i = 0; i < road; i++) {
                lines.append("bestDay(0) = 0\nbook(0, 0) = ").append(i).append('\n');
            }
            lines.append("book(0, 0) throws IllegalState\nbestDay(0) = 1\nbook(0, 1) = ").append(road).append('\n');
            Script.run("if fewer modules are booked for it than the road tells: " + road, lines.toString());
        }
    }

    private static void cranes() {
        for (int crane = 3; crane <= 9; crane++) {
            for (int weights = 0; weights < 27; weights++) {
                crane(crane, new int[] {weights / 9 + 1, weights / 3 % 3 + 1, weights % 3 + 1});
            }
        }
    }

    private static void crane(int crane, int[] weights) {
        StringBuilder lines = new StringBuilder("set(0, 3) = 2\nset(1, " + crane + ") = 5\n");
        int booked = 0;
        for (int i = 0; i < weights.length; i++) {
            lines.append("text ").append(weights[i]).append(":1\naddHouse() = ").append(i).append('\n');
            boolean hasRoom = booked + weights[i] <= crane;
            booked += hasRoom ? weights[i] : 0;
            lines.append("book(").append(i).append(", 4) ").append(hasRoom ? "= 0" : "throws IllegalState").append('\n');
        }
        lines.append("day(4, 2) = ").append(booked).append('\n');
        Script.run("their weights and its own together are at most the crane: " + crane, lines.toString());
    }

    private static void passing() {
        Script.run("all modules that are booked for it: not for the day ahead, and not for the next one", LIGHT + """
                pass(4) = 0
                book(0, 4) = 0
                book(0, 5) = 1
                ifPassed(1, 0) = 1
                pass(1) = 1
                module(0, 0, 2) = 2
                module(0, 1, 2) = 1
                day(4, 3) = 1
                day(5, 3) = 0
                day(5, 1) = 1
                """);
        Script.run("Lets days pass, one by one: 60, of which the last one counts", LIGHT + """
                book(0, 59) = 0
                book(0, 60) = 1
                pass(60) = 1
                count(4) = 60
                pass(1) = 1
                undo() = 4
                undo() = 3
                count(4) = 0
                count(3) = 0
                pass(59) = 0
                count(4) = 59
                """);
        Script.run("price * hold / 100 is held: that of the day on which it is set", LIGHT + """
                set(2, 0) = 10
                book(0, 0) = 0
                set(2, 30) = 0
                pass(1) = 1
                module(0, 0, 5) = 1200
                set(2, 0) = 30
                book(0, 1) = 1
                pass(1) = 1
                module(0, 1, 5) = 0
                module(0, 1, 4) = 203
                release(0, 1) throws IllegalState
                """);
    }

    private static void aheadOfItsHouse() {
        Script.run("the module ahead of it of its house, and not the last one of another house", """
                text 1:1,1:1,1:1,1:1,1:1,1:1
                addHouse() = 0
                text 1:1,1:1
                addHouse() = 1
                book(0, 5) = 0
                book(0, 6) = 1
                book(0, 7) = 2
                book(0, 8) = 3
                book(0, 9) = 4
                book(0, 20) = 5
                bestDay(1) = 0
                book(1, 3) = 0
                book(1, 2) throws IllegalState
                book(1, 3) = 1
                unbook(1) = 3
                unbook(1) = 3
                book(1, 0) = 0
                text 9
                setWinds() = 1
                pass(1) = 0
                module(1, 0, 3) = 1
                module(0, 5, 3) = 20
                """);
    }

    private static void moving() {
        String storm = "text 9\nsetWinds() = 1\n";
        Script.run("If one of them was not set: one of several", """
                text 1:1,1:1
                addHouse() = 0
                text 3:1
                addHouse() = 1
                text 3
                setWinds() = 1
                book(0, 0) = 0
                book(1, 0) = 0
                book(0, 1) = 1
                set(0, 1) = 2
                pass(1) = 1
                module(1, 0, 3) = 1
                module(0, 1, 3) = 2
                module(1, 0, 8) = 1
                module(0, 1, 8) = 1
                """);
        Script.run("the first day that is not earlier than its own", LIGHT + storm + """
                book(0, 0) = 0
                book(0, 5) = 1
                pass(4) = 0
                module(0, 0, 3) = 4
                module(0, 1, 3) = 5
                module(0, 1, 8) = 0
                pass(1) = 0
                module(0, 0, 3) = 5
                module(0, 1, 3) = 5
                module(0, 1, 8) = 0
                pass(1) = 0
                module(0, 0, 3) = 6
                module(0, 1, 3) = 6
                module(0, 1, 8) = 1
                """);
        Script.run("and that of the module ahead of it of its house", HEAVY + storm + """
                text 1:1
                addHouse() = 1
                set(0, 1) = 2
                set(1, 3) = 5
                book(1, 0) = 0
                book(0, 1) = 0
                book(0, 2) = 1
                pass(1) = 0
                module(1, 0, 3) = 1
                module(0, 0, 3) = 2
                module(0, 1, 3) = 3
                count(11) = 3
                """);
        Script.run("and that of the module ahead of it of its house: though its own day has room", """
                text 3:1,1:1
                addHouse() = 0
                text 3:1
                addHouse() = 1
                set(1, 6) = 5
                """ + storm + """
                book(1, 0) = 0
                book(0, 0) = 0
                book(0, 1) = 1
                set(1, 4) = 6
                pass(1) = 0
                module(1, 0, 3) = 1
                module(0, 0, 3) = 2
                module(0, 1, 3) = 2
                day(1, 2) = 3
                day(2, 2) = 4
                count(11) = 3
                """);
        Script.run("and that has room for it, as to the modules that were moved already", """
                text 2:1
                addHouse() = 0
                text 3:1
                addHouse() = 1
                text 1:1
                addHouse() = 2
                """ + storm + """
                book(0, 0) = 0
                book(1, 1) = 0
                book(2, 2) = 0
                pass(1) = 0
                day(1, 2) = 5
                day(2, 2) = 1
                set(1, 4) = 5
                pass(1) = 0
                module(0, 0, 3) = 2
                module(1, 0, 3) = 3
                module(2, 0, 3) = 2
                """);
        Script.run("It stays booked, and its place in the order of booking stays", LIGHT + """
                text 1:1
                addHouse() = 1
                """ + storm + """
                book(1, 1) = 0
                book(0, 0) = 0
                pass(1) = 0
                count(2) = 2
                module(0, 0, 2) = 1
                day(1, 1) = 2
                set(0, 1) = 2
                pass(1) = 0
                module(1, 0, 3) = 2
                module(0, 0, 3) = 3
                book(0, 3) throws IllegalState
                unbook(0) = 3
                """);
    }

    private static void lastDays() {
        String to960 = "pass(60) = 0\n".repeat(16);
        Script.run("Throws IllegalStateException if the number of the day would be above 1000", to960 + """
                pass(41) throws IllegalState
                pass(39) = 0
                pass(2) throws IllegalState
                pass(60) throws IllegalState
                pass(1) = 0
                pass(1) throws IllegalState
                pass(61) throws IllegalArgument
                count(4) = 1000
                ifPassed(60, NONE) = 0
                undo() = 5
                count(4) = 999
                pass(1) = 0
                day(1009, 1) = 0
                """);
        Script.run("or greater than 999", LIGHT + to960 + """
                book(0, 1000) throws IllegalArgument
                book(0, 959) throws IllegalArgument
                book(0, 960) = 0
                book(0, 999) = 1
                ends() = 999
                """);
        Script.run("days above 999 can be, too: for three of a day, if the road gets narrow", """
                text 1:1,1:1,1:1,1:1
                addHouse() = 0
                """ + to960 + """
                text 9
                setWinds() = 1
                set(0, 3) = 2
                book(0, 960) = 0
                book(0, 999) = 1
                book(0, 999) = 2
                book(0, 999) = 3
                set(0, 1) = 3
                pass(1) = 0
                module(0, 1, 3) = 999
                module(0, 2, 3) = 1000
                module(0, 3, 3) = 1001
                day(1001, 1) = 1
                house(0, 6) = 1001
                unbook(0) = 1001
                book(0, 999) throws IllegalState
                bestDay(0) = -1
                """);
    }

    /** Behind the day 1000: the last of 300 days, and as many modules as there can be. */
    private static void farDays() {
        String calm = "text 9*39,2,9*20\nsetWinds() = 60\n";
        for (int modules = 1; modules <= 6; modules++) {
            StringBuilder lines = new StringBuilder("text 3:1").append(",3:1".repeat(modules - 1)).append("\naddHouse() = 0\n");
            lines.append("text 9\nsetWinds() = 1\nset(0, 1) = 2\n").append("pass(60) = 0\n".repeat(16));
            for (int module = 0; module < modules; module++) {
                lines.append("book(0, ").append(994 + module).append(") = ").append(module).append('\n');
            }
            lines.append("pass(40) = 0\nhouse(0, 6) = ").append(999 + modules).append('\n').append(calm);
            lines.append("ends() = ").append(modules < 6 ? 999 + 60 * modules : -1).append('\n');
            Script.run("the limit of 1000 days does not matter: for " + modules, lines + """
                    ifPassed(59, 0) = 0
                    ifPassed(60, 0) = 1
                    bestDay(0) = -1
                    count(4) = 1000
                    """);
        }
        StringBuilder lines = new StringBuilder("set(0, 3) = 2\nset(1, 9) = 5\n").append("pass(60) = 0\n".repeat(16));
        for (int house = 0; house < 6; house++) {
            lines.append("text 1:9,1:9,1:9,1:9,1:9,1:9\naddHouse() = ").append(house).append('\n');
        }
        for (int i = 0; i < 36; i++) {
            lines.append("book(").append(i % 6).append(", ").append(988 + i / 3).append(") = ").append(i / 6).append('\n');
        }
        Script.run("days above 999 can be, too: for 36 modules", lines + """
                text 9
                setWinds() = 1
                set(0, 1) = 3
                pass(40) = 0
                module(0, 0, 3) = 1000
                module(4, 5, 3) = 1034
                module(5, 5, 3) = 1035
                day(1035, 1) = 1
                ends() = -1
                ifPassed(60, NONE) = 0
                text 6
                setWinds() = 1
                ends() = 1035
                ifPassed(36, NONE) = 36
                ifPassed(35, NONE) = 35
                unbook(5) = 1035
                """);
    }

    private static void snags() {
        Script.run("the trade would have more than 99 open snags in it", DEAR + "inspect(0, 0, 3, 9) = 9\n" + """
                inspect(0, 0, 3, 9) = 18
                inspect(0, 0, 3, 9) = 27
                inspect(0, 0, 3, 9) = 36
                inspect(0, 0, 3, 9) = 45
                inspect(0, 0, 3, 9) = 54
                inspect(0, 0, 3, 9) = 63
                inspect(0, 0, 3, 9) = 72
                inspect(0, 0, 3, 9) = 81
                inspect(0, 0, 3, 9) = 90
                inspect(0, 0, 3, 1) = 91
                inspect(0, 0, 3, 9) throws IllegalState
                fix(0, 0, 3, 3) = 0
                inspect(0, 0, 3, 9) = 99
                inspect(0, 0, 3, 1) throws IllegalState
                inspect(0, 0, 2, 9) = 9
                inspect(0, 0, 3, 0) throws IllegalArgument
                inspect(0, 0, 4, 1) throws IndexOutOfBounds
                trade(3, 2) = 99
                trade(3, 4) = 100
                """);
        Script.run("Throws IllegalStateException if the trade has no open snag in the module", DEAR + """
                fix(0, 0, 0, 0) throws IllegalState
                inspect(0, 0, 0, 1) = 1
                fix(0, 0, 1, 0) throws IllegalState
                fix(0, 1, 0, 0) throws IllegalState
                fix(0, 0, 0, 0) = 0
                fix(0, 0, 0, 0) throws IllegalState
                fix(0, 0, 0, 1) throws IllegalState
                """);
    }

    private static void costs() {
        int[][] rows = {{750, 100, 100}, {101, 100, 100}, {100, 100, 100}, {99, 100, 99}, {1, 100, 1}, {0, 100, 0},
            {2, 1, 1}, {1, 1, 1}, {0, 1, 0}};
        for (int[] row : rows) {
            String first = row[0] == 750 ? "" : "claim(0, 0, 3, 0, " + (750 - row[0]) + ") = " + row[0] + "\n";
            Script.run("at most the share that is left: " + row[0], DEAR + first
                    + "set(3, " + row[1] + ") = 20\ninspect(0, 0, 0, 1) = 1\n"
                    + "fix(0, 0, 0, 2) = " + row[2] + "\nshare(0, 0, 0, 0) = " + (row[0] - row[2]) + "\n"
                    + "trade(2, 0) = " + row[2] + "\ntrade(2, 5) = 1\ntrade(0, 1) = " + (750 - row[0] + row[2]) + "\n"
                    + "share(0, 0, 2, 0) = 750\n");
        }
    }

    private static void claims() {
        Script.run("Throws IllegalStateException if the share is less than the amount", DEAR + """
                claim(0, 0, 1, 0, 751) throws IllegalState
                claim(0, 0, 1, 0, 750) = 0
                claim(0, 0, 1, 0, 1) throws IllegalState
                claim(0, 0, 0, 3, 750) throws IllegalState
                claim(0, 0, 0, 3, 748) = 1
                claim(0, 0, 0, 3, 2) throws IllegalState
                claim(0, 0, 0, 3, 1) = 0
                claim(0, 1, 0, 3, 1) throws IllegalState
                trade(0, 0) = 749
                trade(1, 0) = 750
                share(0, 0, 1, 0) = 750
                module(0, 0, 6) = 1499
                """);
    }

    private static void waits() {
        for (int wait : new int[] {0, 1, 5, 29, 30}) {
            StringBuilder lines = new StringBuilder("pass(2) = 0\nbook(0, 2) = 0\npass(1) = 1\nset(4, " + wait + ") = 5\n");
            if (wait > 2) {
                lines.append("pass(").append(wait - 2).append(") = 0\n");
            }
            if (wait > 1) {
                lines.append("release(0, 0) throws IllegalState\npass(1) = 0\n");
            }
            lines.append("release(0, 0) = 400\nrelease(0, 0) = 0\n");
            if (wait < 30 && wait > 0) {
                lines.append("set(4, ").append(wait + 1).append(") = ").append(wait);
                lines.append("\nrelease(0, 0) throws IllegalState\n");
            }
            Script.run("the day on which it was set and the wait together: " + wait, LIGHT + lines);
        }
        Script.run("the day on which it was set and the wait together: of one that was moved", LIGHT + """
                text 9
                setWinds() = 1
                book(0, 0) = 0
                pass(3) = 0
                text 3
                setWinds() = 1
                pass(1) = 1
                module(0, 0, 3) = 3
                module(0, 0, 8) = 3
                count(11) = 3
                day(3, 3) = 1
                day(0, 3) = 0
                pass(3) = 0
                release(0, 0) throws IllegalState
                pass(1) = 0
                release(0, 0) = 400
                """);
        Script.run("each trade that has no open snags in a module: none has", DEAR + """
                set(4, 0) = 5
                inspect(0, 0, 0, 1) = 1
                inspect(0, 0, 1, 1) = 1
                inspect(0, 0, 2, 1) = 1
                inspect(0, 0, 3, 1) = 1
                release(0, 0) = 0
                count(12) = 6
                count(8) = 2999
                fix(0, 0, 3, 3) = 0
                release(0, 0) = 749
                """);
    }

    private static void forecasts() {
        Script.run("NONE if none is booked and not set", LIGHT + """
                ends() = -1
                book(0, 0) = 0
                ends() = 0
                unbook(0) = 0
                ends() = -1
                book(0, 0) = 0
                pass(1) = 1
                ends() = -1
                """);
        Script.run("or if one is not set within 300 days, the present one being the first of them", LIGHT + """
                pass(7) = 0
                book(0, 306) = 0
                ends() = 306
                book(0, 307) = 1
                ends() = -1
                unbook(0) = 307
                book(0, 306) = 1
                ends() = 306
                """);
        Script.run("how many modules would be set by pass(days)", LIGHT + """
                book(0, 0) = 0
                book(0, 59) = 1
                ifPassed(1, NONE) = 1
                ifPassed(59, NONE) = 1
                ifPassed(60, NONE) = 2
                ifPassed(60, 0) = 2
                pass(60) = 2
                ifPassed(60, NONE) = 0
                """);
    }

    private static void bestDays() {
        Script.run("the first of the 100 days from the present one on: the last one of them", HEAVY + """
                text 9*39,2,9*20
                setWinds() = 60
                bestDay(0) = 39
                book(0, 39) = 0
                bestDay(0) = 99
                unbook(0) = 39
                pass(40) = 0
                bestDay(0) = 99
                text 2,9*59
                setWinds() = 60
                book(0, 61) = 0
                bestDay(0) = 120
                unbook(0) = 61
                book(0, 139) = 0
                bestDay(0) = -1
                text 9
                setWinds() = 1
                bestDay(0) = -1
                text 2
                setWinds() = 1
                bestDay(0) = -1
                set(1, 6) = 5
                bestDay(0) = 139
                """);
        Script.run("for which book() would not throw an exception: the present day first", LIGHT + """
                bestDay(0) = 0
                pass(3) = 0
                bestDay(0) = 3
                book(0, 3) = 0
                bestDay(0) = 3
                pass(1) = 1
                bestDay(0) = 4
                """);
        Script.run("so none above 999: with 100 days up to 999, and with less", """
                text 1:1,1:1
                addHouse() = 0
                """ + "pass(60) = 0\n".repeat(15) + """
                book(0, 999) = 0
                bestDay(0) = 999
                set(0, 1) = 2
                bestDay(0) = -1
                set(0, 2) = 1
                pass(60) = 0
                bestDay(0) = 999
                pass(39) = 0
                bestDay(0) = 999
                pass(1) = 1
                bestDay(0) = -1
                """);
        Script.run("on which the wind lets the module be lifted", """
                text 2:1
                addHouse() = 0
                text 9,8,7,6,5,4
                setWinds() = 6
                bestDay(0) = 5
                text 9,8,7,6,5,5
                setWinds() = 6
                bestDay(0) = -1
                """);
    }

    private static void worstTrades() {
        String all = """
                inspect(0, 0, 3, 1) = 1
                inspect(0, 0, 2, 1) = 1
                inspect(0, 0, 1, 1) = 1
                inspect(0, 0, 0, 1) = 1
                """;
        Script.run("of several the one with the least shares that are left", DEAR + all + """
                worstTrade() = 3
                claim(0, 0, 3, 1, 1) = 749
                worstTrade() = 1
                claim(0, 0, 3, 2, 2) = 748
                worstTrade() = 2
                claim(0, 0, 0, 3, 749) = 0
                worstTrade() = 3
                claim(0, 0, 3, 0, 750) = 0
                worstTrade() = 0
                inspect(0, 0, 3, 1) = 2
                worstTrade() = 3
                inspect(0, 0, 2, 1) = 2
                worstTrade() = 3
                claim(0, 0, 3, 2, 748) = 0
                worstTrade() = 2
                """);
        Script.run("of several the lowest number", LIGHT + """
                set(2, 0) = 10
                book(0, 0) = 0
                pass(1) = 1
                """ + all + """
                worstTrade() = 0
                fix(0, 0, 0, 0) = 0
                worstTrade() = 1
                fix(0, 0, 1, 1) = 0
                worstTrade() = 2
                fix(0, 0, 2, 2) = 0
                worstTrade() = 3
                fix(0, 0, 3, 3) = 0
                worstTrade() = -1
                """);
    }

    private static void heldShares() {
        Script.run("0.0 if that is 0", LIGHT + """
                heldShare() = 0.0
                book(0, 0) = 0
                heldShare() = 0.0
                set(2, 30) = 10
                pass(1) = 1
                heldShare() = 0.3
                set(4, 0) = 5
                inspect(0, 0, 0, 1) = 1
                claim(0, 0, 1, 0, 299) = 1
                release(0, 0) = 900
                heldShare() = 2.5E-4
                """);
        Script.run("count(8) is 0", LIGHT + """
                set(2, 0) = 10
                book(0, 0) = 0
                pass(1) = 1
                heldShare() = 0.0
                """);
    }

    /** These two were computed from the list of promise 28 without a program of this project. */
    private static void digests() {
        ModuleYard yard = new ModuleYard();
        Script.due("The hash starts at 2293", "digest() of a new object", yard.digest(), -1084351206980517877L);
        Script.type(yard, "1:1000");
        yard.addHouse();
        yard.book(0, 0);
        yard.pass(1);
        yard.append(126);
        Script.due("in long arithmetic with overflow", "digest()", yard.digest(), -8613145586186747688L);
    }

    private static void lastCall() {
        ModuleYard yard = new ModuleYard();
        Script.type(yard, "1:1000");
        yard.addHouse();
        // So far there were 8 calls.
        for (int i = 0; i < 503; i++) {
            yard.set(3, i % 100 + 1);
        }
        Script.due("at most 512 calls", "the last call: count(12)", yard.count(12), 6);
    }
}
