/**
 * Undo of the terms: what saves a state and what does not, what comes back,
 * and how many states are saved.
 */
public final class UndoTest {
    private static final String[] SETUP = {
        "text 1:4000,2:203", "addHouse()", "set(4, 0)", "book(0, 0)", "pass(1)", "inspect(0, 0, 1, 2)", "book(0, 5)",
    };

    public static void main(String[] args) {
        String[] undoable = {
            "unbook(0)", "set(0, 1)", "set(0, 2)", "pass(1)", "pass(60)", "inspect(0, 0, 0, 9)", "fix(0, 0, 1, 1)",
            "fix(0, 0, 1, 3)", "claim(0, 0, 2, 3, 100)", "release(0, 0)",
        };
        for (String call : undoable) {
            saves("", call);
        }
        saves("1:1", "addHouse()");
        saves("3", "setWinds()");
        saves("9*60", "setWinds()");
        savesBook();
        savesTheLastModule();
        savesWhatChangesNothing();
        savesNothing();
        rings();
        keepsTheBuffer();
        Script.close();
    }

    private static ModuleYard yard() {
        ModuleYard yard = new ModuleYard();
        for (String call : SETUP) {
            if (call.startsWith("text ")) {
                Script.type(yard, call.substring(5));
            } else {
                Script.answer(yard, call);
            }
        }
        return yard;
    }

    /** Once with all 6 places full, and once with one place left. */
    private static void saves(String text, String call) {
        for (int left = 0; left <= 1; left++) {
            ModuleYard yard = yard();
            Script.type(yard, text);
            if (left == 1) {
                yard.set(3, 7);
                yard.undo();
            }
            String before = told(yard);
            Script.due(call, "count(12) ahead of it", yard.count(12), 6 - left);
            Script.due(call, "throws", Script.answer(yard, call).startsWith("throws"), false);
            Script.due(call, "count(12) behind it", yard.count(12), 6);
            Script.due(call, "undo()", yard.undo(), 5);
            Script.due(call, "all that is told behind undo()", told(yard), before);
        }
    }

    private static void savesBook() {
        ModuleYard yard = yard();
        yard.unbook(0);
        String before = told(yard);
        Script.due("book", "book(0, 7)", yard.book(0, 7), 1);
        Script.due("book", "count(12)", yard.count(12), 6);
        Script.due("book", "undo()", yard.undo(), 5);
        Script.due("book", "all that is told behind undo()", told(yard), before);
    }

    /** All that there is of the last module of the last house comes back too. */
    private static void savesTheLastModule() {
        StringBuilder lines = new StringBuilder();
        for (int house = 0; house < 6; house++) {
            lines.append("text ").append(house < 5 ? "1:1" : "1:1,1:2,1:3,1:4,1:5,1:2000").append("\naddHouse() = ").append(house).append('\n');
        }
        for (int module = 0; module < 6; module++) {
            lines.append("book(5, ").append(module).append(") = ").append(module).append('\n');
        }
        Script.run("all but the buffer and the saved states: the last module of the last house", lines + """
                set(4, 0) = 5
                pass(6) = 6
                inspect(5, 5, 3, 9) = 9
                inspect(5, 5, 2, 4) = 4
                claim(5, 5, 0, 3, 11) = 39
                module(5, 5, 7) = 13
                house(5, 4) = 13
                house(5, 5) = 189
                count(8) = 189
                count(10) = 13
                fix(5, 5, 3, 0) = 20
                undo() = 5
                share(5, 5, 3, 0) = 39
                share(5, 5, 3, 1) = 9
                module(5, 5, 6) = 11
                trade(0, 5) = 0
                undo() = 4
                share(5, 5, 3, 0) = 50
                trade(0, 0) = 0
                release(5, 5) = 100
                undo() = 4
                module(5, 5, 4) = 1800
                module(5, 5, 5) = 200
                undo() = 3
                share(5, 5, 2, 1) = 0
                share(5, 5, 3, 1) = 9
                undo() = 2
                undo() = 1
                module(5, 5, 2) = 1
                module(5, 5, 4) = 0
                share(5, 5, 3, 0) = 0
                share(5, 5, 3, 1) = 0
                count(2) = 6
                ends() = 5
                undo() = 0
                setting(4) = 5
                """);
    }

    private static void savesWhatChangesNothing() {
        Script.run("(also if it changes nothing)", """
                text 1:4000
                addHouse() = 0
                book(0, 0) = 0
                pass(5) = 1
                release(0, 0) = 400
                count(12) = 4
                release(0, 0) = 0
                count(12) = 5
                undo() = 4
                module(0, 0, 4) = 4000
                set(2, 10) = 10
                count(12) = 5
                text 3
                setWinds() = 1
                count(12) = 6
                undo() = 5
                undo() = 4
                undo() = 3
                module(0, 0, 4) = 3600
                """);
    }

    private static void savesNothing() {
        Script.run("marked \"undoable\": the others are not", """
                append(49) = 1
                append(58) = 2
                clearBuffer() = 2
                clearBuffer() = 0
                firstError(true) = 0
                addHouse() throws IllegalArgument
                setWinds() throws IllegalArgument
                book(0, 0) throws IndexOutOfBounds
                unbook(0) throws IndexOutOfBounds
                set(0, 0) throws IllegalArgument
                pass(0) throws IllegalArgument
                count(12) = 0
                undo() throws IllegalState
                pass(1) = 0
                pass(61) throws IllegalArgument
                append(49) = 1
                count(12) = 1
                undo() = 0
                count(4) = 0
                clearBuffer() = 1
                undo() throws IllegalState
                """);
    }

    /** The row of saved states goes round. */
    private static void rings() {
        for (int calls = 1; calls <= 20; calls++) {
            StringBuilder lines = new StringBuilder();
            for (int i = 1; i <= calls; i++) {
                lines.append("set(3, ").append(20 + i).append(") = ").append(19 + i).append('\n');
            }
            int saved = Math.min(calls, 6);
            lines.append("count(12) = ").append(saved).append('\n');
            for (int i = 1; i <= saved; i++) {
                lines.append("undo() = ").append(saved - i).append("\nsetting(3) = ").append(20 + calls - i).append('\n');
            }
            lines.append("undo() throws IllegalState\nset(3, 100) = ").append(20 + calls - saved).append('\n');
            lines.append("count(12) = 1\nundo() = 0\nsetting(3) = ").append(20 + calls - saved).append('\n');
            Script.run("At most 6 states are saved; the oldest one is dropped first: " + calls, lines.toString());
        }
    }

    private static void keepsTheBuffer() {
        Script.run("all but the buffer and the saved states", """
                text 1:7
                set(0, 3) = 2
                append(55) = 4
                undo() = 0
                append(55) = 5
                addHouse() = 0
                house(0, 3) = 777
                undo() = 0
                clearBuffer() = 0
                text 1*6
                pass(1) = 0
                clearBuffer() = 3
                undo() = 0
                clearBuffer() = 0
                """);
    }

    /** All answers but those that hang on the saved states and the buffer. */
    private static String told(ModuleYard yard) {
        StringBuilder text = new StringBuilder();
        for (int what = 0; what <= 11; what++) {
            text.append(yard.count(what)).append(' ');
        }
        for (int setting = 0; setting < 5; setting++) {
            text.append(yard.setting(setting)).append(' ');
        }
        for (int house = 0; house < yard.count(0); house++) {
            tellHouse(text, yard, house);
        }
        for (int trade = 0; trade < 4; trade++) {
            for (int what = 0; what <= 5; what++) {
                text.append(yard.trade(trade, what)).append(' ');
            }
        }
        for (int day = 0; day < 7; day++) {
            text.append(yard.day(day, 0)).append(yard.day(day, 1)).append(yard.day(day, 3)).append(' ');
        }
        text.append(yard.ends()).append(' ').append(yard.worstTrade()).append(' ').append(yard.heldShare());
        return text.toString();
    }

    private static void tellHouse(StringBuilder text, ModuleYard yard, int house) {
        text.append("house ").append(yard.bestDay(house)).append(' ');
        for (int what = 0; what <= 6; what++) {
            text.append(yard.house(house, what)).append(' ');
        }
        for (int module = 0; module < yard.house(house, 0); module++) {
            for (int what = 0; what <= 8; what++) {
                text.append(yard.module(house, module, what)).append(' ');
            }
            for (int trade = 0; trade < 4; trade++) {
                text.append(yard.share(house, module, trade, 0)).append(' ').append(yard.share(house, module, trade, 1)).append(' ');
            }
        }
    }
}
