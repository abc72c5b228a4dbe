/**
 * The two kinds of texts, character by character: behind each beginning, each
 * of the codes 33 to 126 is a syntax error or is not; and which beginnings are
 * complete texts.
 */
public final class GrammarTest {
    private static final String DIGITS = "0123456789";
    private static final String FROM_1 = "123456789";

    private static final String FIVE = "1:1,2:22,3:333,1:4444,2:5,";
    private static final String FULL = "1,".repeat(29);

    /** A beginning, what may follow it, and whether it is complete. */
    private static final Object[][] HOUSES = {
        {"", "123", false},
        {"1", ":", false}, {"2", ":", false}, {"3", ":", false},
        {"1:", FROM_1, false},
        {"1:1", DIGITS + ",", true}, {"1:10", DIGITS + ",", true}, {"3:999", DIGITS + ",", true},
        {"1:1000", ",", true}, {"1:9999", ",", true},
        {"1:1,", "123", false}, {"1:9999,", "123", false}, {"1:1,3", ":", false}, {"1:1,3:", FROM_1, false},
        {FIVE, "123", false}, {FIVE + "3", ":", false}, {FIVE + "3:", FROM_1, false},
        {FIVE + "3:6", DIGITS, true}, {FIVE + "3:666", DIGITS, true}, {FIVE + "3:6666", "", true},
    };

    private static final Object[][] WINDS = {
        {"", DIGITS, false},
        {"0", "*,", true}, {"9", "*,", true},
        {"1*", FROM_1, false},
        {"1*1", DIGITS, false}, {"1*2", DIGITS + ",", true}, {"1*3", DIGITS + ",", true}, {"1*4", DIGITS + ",", true},
        {"1*5", DIGITS + ",", true}, {"1*6", "0,", true}, {"1*7", ",", true}, {"1*8", ",", true}, {"1*9", ",", true},
        {"1*10", ",", true}, {"1*19", ",", true}, {"1*20", ",", true}, {"1*59", ",", true}, {"1*60", ",", true},
        {"1,", DIGITS, false}, {"1*2,", DIGITS, false}, {"1*60,", DIGITS, false},
        {"1,2", "*,", true}, {"1,2*", FROM_1, false}, {"1,2*1", DIGITS, false}, {"1*60,2*6", "0,", true},
        {FULL, DIGITS, false}, {FULL + "1", "*,", true},
    };

    public static void main(String[] args) {
        for (Object[] row : HOUSES) {
            beginning((String) row[0], (String) row[1], (Boolean) row[2], true);
        }
        for (Object[] row : WINDS) {
            beginning((String) row[0], (String) row[1], (Boolean) row[2], false);
        }
        errorStays();
        fullBuffer();
        timesOfAll();
        pricesOfAll();
        Script.close();
    }

    private static void beginning(String text, String next, boolean isComplete, boolean isHouse) {
        String title = (isHouse ? "house " : "winds ") + text;
        for (char sign = 33; sign <= 126; sign++) {
            ModuleYard yard = new ModuleYard();
            Script.type(yard, text);
            Script.due(title, "firstError()", yard.firstError(isHouse), text.length());
            yard.append(sign);
            int due = text.length() + (next.indexOf(sign) >= 0 ? 1 : 0);
            Script.due(title, "firstError() behind " + sign, yard.firstError(isHouse), due);
        }
        ModuleYard yard = new ModuleYard();
        Script.type(yard, text);
        String answer = Script.answer(yard, isHouse ? "addHouse()" : "setWinds()");
        boolean isTaken = !answer.equals("throws IllegalArgumentException");
        Script.due(title, "complete", isTaken, isComplete);
    }

    /** Behind an error the text is not read, even if it could go on. */
    private static void errorStays() {
        Script.run("Finds the first syntax error", """
                text 1:1x,2:2
                firstError(true) = 3
                firstError(false) = 1
                addHouse() throws IllegalArgument
                text 01:1
                firstError(true) = 0
                firstError(false) = 1
                addHouse() throws IllegalArgument
                text 1,22,3
                firstError(false) = 3
                setWinds() throws IllegalArgument
                text 1*22,3*61
                firstError(false) = 8
                setWinds() throws IllegalArgument
                text 1:00001
                firstError(true) = 2
                text 1*2:7
                firstError(false) = 3
                firstError(true) = 1
                """);
    }

    private static void fullBuffer() {
        Script.run("the length of the buffer if there is none", """
                firstError(true) = 0
                firstError(false) = 0
                text 1*2,3*45,6*7,1,1,1,1,1,1,1,1,1,1,1,1,1,1,1,1,1,1,1,1,1,1,1*2
                firstError(false) = 60
                append(44) throws IllegalState
                append(32) throws IllegalArgument
                setWinds() throws IllegalState
                clearBuffer() = 60
                text 1*2,3*5,6*7,1,1,1,1,1,1,1,1,1,1,1,1,1,1,1,1,1,1,1,1,1,1,1*2,
                firstError(false) = 60
                setWinds() throws IllegalArgument
                clearBuffer() = 60
                firstError(false) = 0
                text 1*2,3*15,6*7,1,1,1,1,1,1,1,1,1,1,1,1,1,1,1,1,1,1,1,1,1,1,1*2
                firstError(false) = 60
                firstError(true) = 1
                setWinds() = 48
                clearBuffer() = 0
                """);
    }

    private static void timesOfAll() {
        for (int times = 0; times <= 105; times++) {
            String text = "7*" + times;
            boolean isRight = times >= 2 && times <= 60;
            Script.run("a number, 2 to 60, without leading zeros", "text " + text
                    + "\nsetWinds() " + (isRight ? "= " + times : "throws IllegalArgument") + "\ntext 7*0" + times
                    + "\nfirstError(false) = 2\nsetWinds() throws IllegalArgument\n");
        }
    }

    private static void pricesOfAll() {
        for (int price = 0; price <= 10100; price++) {
            ModuleYard yard = new ModuleYard();
            Script.type(yard, "2:" + price);
            boolean isRight = price >= 1 && price <= 9999;
            Script.due("its price, 1 to 9999", "addHouse() of " + price, Script.answer(yard, "addHouse()"),
                    isRight ? "0" : "throws IllegalArgumentException");
            if (isRight) {
                Script.due("its price", "module(0, 0, 1)", yard.module(0, 0, 1), price);
            }
        }
    }
}
