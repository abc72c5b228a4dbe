import java.util.Arrays;

/**
 * A yard for houses that are built of modules. README.md says how to use it.
 *
 * All rows are made once, in the constructors: no call makes an object, but
 * for the exception that it throws.
 */
public final class ModuleYard {
    public static final int NONE = -1;

    private static final int HOUSES = 6;
    private static final int HOUSE_MODULES = 6;
    private static final int PLACES = HOUSES * HOUSE_MODULES;
    private static final int TRADES = 4;

    private static final int WINDS = 60;
    private static final int CODES = 60;
    private static final int SAVED = 6;

    private static final int LAST_BOOKED_DAY = 999;
    private static final int LAST_DAY = 1000;
    private static final int LAST_ASKED_DAY = 9999;
    private static final int PASSED_DAYS = 60;
    private static final int ENDS_DAYS = 300;
    private static final int BEST_DAYS = 100;

    private static final int MOST_PRICE = 9999;
    private static final int MOST_AMOUNT = 9999;
    private static final int MOST_FOUND = 9;
    private static final int MOST_SNAGS = 99;

    private static final int ROAD = 0;
    private static final int CRANE = 1;
    private static final int HOLD = 2;
    private static final int COST = 3;
    private static final int WAIT = 4;
    private static final int SETTINGS = 5;
    private static final int[] LOWEST = {1, 3, 0, 1, 0};
    private static final int[] HIGHEST = {3, 9, 30, 100, 30};
    private static final int[] AT_FIRST = {2, 5, 10, 20, 5};

    private static final int CLAIMED_BY = 0;
    private static final int CLAIMED_FROM = 1;
    private static final int FOUND = 2;
    private static final int FIXED_FOR_OTHERS = 3;
    private static final int TALLIES = 4;

    private static final int COUNTS = 13;
    private static final int HOUSE_PROPERTIES = 7;
    private static final int MODULE_PROPERTIES = 9;
    private static final int TRADE_NUMBERS = 6;
    private static final int DAY_NUMBERS = 4;

    private final Yard yard = new Yard();
    // What would be is tried out on this one, so that nothing is changed.
    private final Yard trial = new Yard();
    private final SavedYards saved = new SavedYards();
    private final Slots slots = new Slots();
    private final InputText input = new InputText();
    private final HouseReader houseReader = new HouseReader();
    private final WindReader windReader = new WindReader();

    public ModuleYard() {
    }

    // ---- houses and slots

    public int book(int house, int day) throws IndexOutOfBoundsException, IllegalArgumentException, IllegalStateException {
        requireHouse(house);
        if (day < yard.today || day > LAST_BOOKED_DAY) {
            throw new IllegalArgumentException("the day can not be booked");
        }
        if (yard.bookedCounts[house] >= yard.sizes[house]) {
            throw new IllegalStateException("all modules of the house are booked");
        }
        int next = yard.bookedCounts[house];
        int place = placeOf(house, next);
        slots.takeIn(yard);
        if (!slots.isOpen(yard, place, day)) {
            throw new IllegalStateException("the day has no room, or is too early");
        }
        saved.save(yard);
        yard.bookPlace(place, day);
        return next;
    }

    public int unbook(int house) throws IndexOutOfBoundsException, IllegalStateException {
        requireHouse(house);
        if (yard.bookedCounts[house] <= yard.setCounts[house]) {
            throw new IllegalStateException("no module is booked and not set");
        }
        saved.save(yard);
        return yard.unbookPlace(placeOf(house, yard.bookedCounts[house] - 1));
    }

    public int set(int setting, int value) throws IndexOutOfBoundsException, IllegalArgumentException {
        requireSetting(setting);
        if (value < LOWEST[setting] || value > HIGHEST[setting]) {
            throw new IllegalArgumentException("the value is out of range");
        }
        saved.save(yard);
        int previous = yard.settings[setting];
        yard.settings[setting] = value;
        return previous;
    }

    public int pass(int days) throws IllegalArgumentException, IllegalStateException {
        requirePassedDays(days);
        if (yard.today + days > LAST_DAY) {
            throw new IllegalStateException("there are no such days");
        }
        saved.save(yard);
        int before = yard.modulesSet();
        slots.passDays(yard, days);
        return yard.modulesSet() - before;
    }

    // ---- snags, claims, money

    public int inspect(int house, int module, int trade, int snags) throws IndexOutOfBoundsException, IllegalArgumentException, IllegalStateException {
        requireModule(house, module);
        requireTrade(trade);
        if (snags < 1 || snags > MOST_FOUND) {
            throw new IllegalArgumentException("snags are out of range");
        }
        requireSet(house, module);
        int cell = cellOf(placeOf(house, module), trade);
        if (yard.snags[cell] + snags > MOST_SNAGS) {
            throw new IllegalStateException("too many open snags");
        }
        saved.save(yard);
        yard.snags[cell] += snags;
        yard.addTally(trade, FOUND, snags);
        return yard.snags[cell];
    }

    public int fix(int house, int module, int trade, int by) throws IndexOutOfBoundsException, IllegalStateException {
        requireModule(house, module);
        requireTrade(trade);
        requireTrade(by);
        int place = placeOf(house, module);
        int cell = cellOf(place, trade);
        if (yard.snags[cell] < 1) {
            throw new IllegalStateException("the trade has no open snag");
        }
        saved.save(yard);
        yard.snags[cell]--;
        if (by == trade) {
            return 0;
        }
        int cost = Math.min(yard.settings[COST], yard.shares[cell]);
        yard.moveShare(place, by, trade, cost);
        yard.addTally(by, FIXED_FOR_OTHERS, 1);
        return cost;
    }

    public int claim(int house, int module, int from, int against, int amount) throws IndexOutOfBoundsException, IllegalArgumentException, IllegalStateException {
        requireModule(house, module);
        requireTrade(from);
        requireTrade(against);
        if (amount < 1 || amount > MOST_AMOUNT || from == against) {
            throw new IllegalArgumentException("the claim is not one of an amount from another trade");
        }
        int place = placeOf(house, module);
        int cell = cellOf(place, against);
        if (yard.shares[cell] < amount) {
            throw new IllegalStateException("the share is less than the amount");
        }
        saved.save(yard);
        yard.moveShare(place, from, against, amount);
        return yard.shares[cell];
    }

    public int release(int house, int module) throws IndexOutOfBoundsException, IllegalStateException {
        requireModule(house, module);
        requireSet(house, module);
        int place = placeOf(house, module);
        if (yard.today < yard.days[place] + yard.settings[WAIT]) {
            throw new IllegalStateException("it is too early to release");
        }
        saved.save(yard);
        return yard.payShares(place);
    }

    // ---- texts

    public int append(int code) throws IllegalArgumentException, IllegalStateException {
        if (code < 33 || code > 126) {
            throw new IllegalArgumentException("the code is out of range");
        }
        if (input.length >= CODES) {
            throw new IllegalStateException("the buffer is full");
        }
        return input.put(code);
    }

    public int clearBuffer() {
        return input.empty();
    }

    public int firstError(boolean isHouse) {
        return isHouse ? input.errorFor(houseReader) : input.errorFor(windReader);
    }

    public int addHouse() throws IllegalArgumentException, IllegalStateException {
        if (!input.isComplete(houseReader)) {
            throw new IllegalArgumentException("the buffer is not a complete house");
        }
        if (yard.houseCount >= HOUSES) {
            throw new IllegalStateException("there are 6 houses");
        }
        saved.save(yard);
        yard.putHouse(houseReader);
        input.empty();
        return yard.houseCount - 1;
    }

    public int setWinds() throws IllegalArgumentException, IllegalStateException {
        if (!input.isComplete(windReader)) {
            throw new IllegalArgumentException("the buffer is not a complete text of winds");
        }
        if (windReader.total() > WINDS) {
            throw new IllegalStateException("there are more than 60 winds");
        }
        saved.save(yard);
        yard.putWinds(windReader);
        input.empty();
        return yard.windCount;
    }

    public int undo() throws IllegalStateException {
        if (saved.size < 1) {
            throw new IllegalStateException("there is no saved state");
        }
        saved.restore(yard);
        return saved.size;
    }

    // ---- what there is

    public int house(int house, int what) throws IndexOutOfBoundsException, IllegalArgumentException {
        requireHouse(house);
        requireWhat(what, HOUSE_PROPERTIES);
        int place = placeOf(house, 0);
        int cell = cellOf(place, 0);
        switch (what) {
            case 0:
                return yard.sizes[house];
            case 1:
                return yard.bookedCounts[house];
            case 2:
                return yard.setCounts[house];
            case 3:
                return sumOf(yard.prices, place, HOUSE_MODULES);
            case 4:
                return sumOf(yard.snags, cell, HOUSE_MODULES * TRADES);
            case 5:
                return sumOf(yard.shares, cell, HOUSE_MODULES * TRADES);
            default:
                return yard.dayAhead(place, yard.bookedCounts[house]);
        }
    }

    public int module(int house, int module, int what) throws IndexOutOfBoundsException, IllegalArgumentException {
        requireModule(house, module);
        requireWhat(what, MODULE_PROPERTIES);
        int place = placeOf(house, module);
        switch (what) {
            case 0:
                return yard.weights[place];
            case 1:
                return yard.prices[place];
            case 2:
                return yard.stageOf(house, module);
            case 3:
                return yard.days[place];
            case 4:
                return yard.paid[place];
            case 5:
                return sumOf(yard.shares, cellOf(place, 0), TRADES);
            case 6:
                return yard.claimed[place];
            case 7:
                return sumOf(yard.snags, cellOf(place, 0), TRADES);
            default:
                return yard.moves[place];
        }
    }

    public int share(int house, int module, int trade, int what) throws IndexOutOfBoundsException, IllegalArgumentException {
        requireModule(house, module);
        requireTrade(trade);
        requireWhat(what, 2);
        int cell = cellOf(placeOf(house, module), trade);
        return what == 0 ? yard.shares[cell] : yard.snags[cell];
    }

    public int trade(int trade, int what) throws IndexOutOfBoundsException, IllegalArgumentException {
        requireTrade(trade);
        requireWhat(what, TRADE_NUMBERS);
        switch (what) {
            case 0:
                return yard.tallyOf(trade, CLAIMED_BY);
            case 1:
                return yard.tallyOf(trade, CLAIMED_FROM);
            case 2:
                return sumOfTrade(yard.snags, trade);
            case 3:
                return sumOfTrade(yard.shares, trade);
            case 4:
                return yard.tallyOf(trade, FOUND);
            default:
                return yard.tallyOf(trade, FIXED_FOR_OTHERS);
        }
    }

    public int day(int day, int what) throws IllegalArgumentException {
        if (day < 0 || day > LAST_ASKED_DAY) {
            throw new IllegalArgumentException("the day is out of range");
        }
        requireWhat(what, DAY_NUMBERS);
        switch (what) {
            case 0:
                return yard.windOf(day);
            case 1:
                return yard.bookedFor(day);
            case 2:
                return yard.weightFor(day);
            default:
                return yard.setOn(day);
        }
    }

    public int count(int what) throws IllegalArgumentException {
        requireWhat(what, COUNTS);
        switch (what) {
            case 0:
                return yard.houseCount;
            case 1:
                return sumOf(yard.sizes, 0, HOUSES);
            case 2:
                return yard.queueLength;
            case 3:
                return yard.modulesSet();
            case 4:
                return yard.today;
            case 5:
                return yard.windCount;
            case 6:
                return yard.pricesSet();
            case 7:
                return sumOf(yard.paid, 0, PLACES);
            case 8:
                return sumOf(yard.shares, 0, PLACES * TRADES);
            case 9:
                return sumOf(yard.claimed, 0, PLACES);
            case 10:
                return sumOf(yard.snags, 0, PLACES * TRADES);
            case 11:
                return sumOf(yard.moves, 0, PLACES);
            default:
                return saved.size;
        }
    }

    public int setting(int setting) throws IndexOutOfBoundsException {
        requireSetting(setting);
        return yard.settings[setting];
    }

    // ---- what would be; nothing is changed, and the limit of 1000 days does not matter

    public int ends() {
        if (yard.queueLength < 1) {
            return NONE;
        }
        trial.copyFrom(yard);
        for (int i = 0; i < ENDS_DAYS; i++) {
            slots.passDays(trial, 1);
            if (trial.queueLength < 1) {
                return trial.today - 1;
            }
        }
        return NONE;
    }

    public int bestDay(int house) throws IndexOutOfBoundsException {
        requireHouse(house);
        if (yard.bookedCounts[house] >= yard.sizes[house]) {
            return NONE;
        }
        int place = placeOf(house, yard.bookedCounts[house]);
        int last = Math.min(yard.today + BEST_DAYS - 1, LAST_BOOKED_DAY);
        slots.takeIn(yard);
        for (int number = yard.today; number <= last; number++) {
            if (slots.isOpen(yard, place, number) && yard.canLift(place, number)) {
                return number;
            }
        }
        return NONE;
    }

    public int ifPassed(int days, int house) throws IndexOutOfBoundsException, IllegalArgumentException {
        if (house != NONE) {
            requireHouse(house);
        }
        requirePassedDays(days);
        trial.copyFrom(yard);
        slots.passDays(trial, days);
        if (house == NONE) {
            return trial.modulesSet() - yard.modulesSet();
        }
        return trial.setCounts[house] - yard.setCounts[house];
    }

    public int worstTrade() {
        int worst = NONE;
        int mostSnags = 0;
        int leastShares = 0;
        for (int trade = 0; trade < TRADES; trade++) {
            int snags = sumOfTrade(yard.snags, trade);
            int shares = sumOfTrade(yard.shares, trade);
            if (snags > mostSnags || (snags > 0 && snags == mostSnags && shares < leastShares)) {
                worst = trade;
                mostSnags = snags;
                leastShares = shares;
            }
        }
        return worst;
    }

    public double heldShare() {
        int prices = count(6);
        if (prices == 0) {
            return 0.0;
        }
        return (double) count(8) / (double) prices;
    }

    public long digest() {
        long hash = 2293;
        for (int what = 0; what < COUNTS; what++) {
            hash = mix(hash, count(what));
        }
        hash = mixRow(hash, yard.settings, SETTINGS);
        hash = mixRow(hash, yard.winds, yard.windCount);
        for (int house = 0; house < yard.houseCount; house++) {
            hash = mixHouse(hash, house);
        }
        hash = mixTrades(hash);
        hash = mixDays(hash);
        hash = mix(hash, ends());
        hash = mix(hash, worstTrade());
        hash = mix(hash, ifPassed(10, NONE));
        hash = mix(hash, bitsOf(heldShare()));
        hash = mix(hash, input.length);
        return mixRow(hash, input.codes, input.length);
    }

    private long mixHouse(long start, int house) {
        long hash = start;
        for (int what = 0; what < HOUSE_PROPERTIES; what++) {
            hash = mix(hash, house(house, what));
        }
        for (int module = 0; module < yard.sizes[house]; module++) {
            hash = mixModule(hash, house, module);
        }
        return mix(hash, bestDay(house));
    }

    private long mixModule(long start, int house, int module) {
        long hash = start;
        for (int what = 0; what < MODULE_PROPERTIES; what++) {
            hash = mix(hash, module(house, module, what));
        }
        for (int trade = 0; trade < TRADES; trade++) {
            hash = mix(hash, share(house, module, trade, 0));
            hash = mix(hash, share(house, module, trade, 1));
        }
        return hash;
    }

    private long mixTrades(long start) {
        long hash = start;
        for (int trade = 0; trade < TRADES; trade++) {
            for (int what = 0; what < TRADE_NUMBERS; what++) {
                hash = mix(hash, trade(trade, what));
            }
        }
        return hash;
    }

    private long mixDays(long start) {
        long hash = start;
        for (int i = 0; i < 10; i++) {
            hash = mix(hash, day(yard.today + i, 1));
            hash = mix(hash, day(yard.today + i, 2));
        }
        return hash;
    }

    private static long mixRow(long start, int[] row, int length) {
        long hash = start;
        for (int i = 0; i < length; i++) {
            hash = mix(hash, row[i]);
        }
        return hash;
    }

    private static long mix(long hash, long value) {
        return 31 * hash + value;
    }

    /**
     * The bits of a double from 0.0 to below 1.0 that is not subnormal. The
     * language rules leave out the library's function, so they are built from
     * steps that are exact: doubling, and taking off the leading 1.
     */
    private static long bitsOf(double value) {
        if (!(value > 0.0)) {
            return 0L;
        }
        double scaled = value;
        long exponent = 1023;
        for (int i = 0; i < 1022 && scaled < 1.0; i++) {
            scaled = scaled * 2.0;
            exponent--;
        }
        long fraction = (long) ((scaled - 1.0) * 4503599627370496.0);
        return (exponent << 52) + fraction;
    }

    private static int placeOf(int house, int module) {
        return house * HOUSE_MODULES + module;
    }

    private static int cellOf(int place, int trade) {
        return place * TRADES + trade;
    }

    private static int sumOf(int[] row, int from, int length) {
        int sum = 0;
        for (int i = from; i < from + length; i++) {
            sum += row[i];
        }
        return sum;
    }

    private static int sumOfTrade(int[] cells, int trade) {
        int sum = 0;
        for (int place = 0; place < PLACES; place++) {
            sum += cells[cellOf(place, trade)];
        }
        return sum;
    }

    private void requireHouse(int house) {
        if (house < 0 || house >= yard.houseCount) {
            throw new IndexOutOfBoundsException("there is no such house");
        }
    }

    private void requireModule(int house, int module) {
        requireHouse(house);
        if (module < 0 || module >= yard.sizes[house]) {
            throw new IndexOutOfBoundsException("there is no such module");
        }
    }

    private void requireSet(int house, int module) {
        if (module >= yard.setCounts[house]) {
            throw new IllegalStateException("the module is not set");
        }
    }

    private static void requireTrade(int trade) {
        if (trade < 0 || trade >= TRADES) {
            throw new IndexOutOfBoundsException("there is no such trade");
        }
    }

    private static void requireSetting(int setting) {
        if (setting < 0 || setting >= SETTINGS) {
            throw new IndexOutOfBoundsException("there is no such setting");
        }
    }

    private static void requirePassedDays(int days) {
        if (days < 1 || days > PASSED_DAYS) {
            throw new IllegalArgumentException("days are out of range");
        }
    }

    private static void requireWhat(int what, int numbers) {
        if (what < 0 || what >= numbers) {
            throw new IllegalArgumentException("there is no such number");
        }
    }

    /**
     * All that undo brings back. The module m of the house h stands at the
     * place h * 6 + m of the rows of modules; its cells of the trades stand at
     * place * 4 + trade. Places without a module hold 0, so that sums may run
     * over whole rows. In each house the modules that are set come first, then
     * those that are booked: two counts tell the stage of each.
     */
    private static final class Yard {
        int today;
        int houseCount;
        int windCount = 1;
        int queueLength;
        final int[] winds = new int[WINDS];
        final int[] settings = new int[SETTINGS];
        final int[] sizes = new int[HOUSES];
        final int[] bookedCounts = new int[HOUSES];
        final int[] setCounts = new int[HOUSES];
        final int[] weights = new int[PLACES];
        final int[] prices = new int[PLACES];
        final int[] days = new int[PLACES];
        final int[] paid = new int[PLACES];
        final int[] claimed = new int[PLACES];
        final int[] moves = new int[PLACES];
        final int[] shares = new int[PLACES * TRADES];
        final int[] snags = new int[PLACES * TRADES];
        final int[] tallies = new int[TRADES * TALLIES];
        // The places of the modules that are booked and not set, in the order of booking.
        final int[] queue = new int[PLACES];

        Yard() {
            winds[0] = 3;
            System.arraycopy(AT_FIRST, 0, settings, 0, SETTINGS);
            Arrays.fill(days, NONE);
        }

        void copyFrom(Yard other) {
            today = other.today;
            houseCount = other.houseCount;
            windCount = other.windCount;
            queueLength = other.queueLength;
            System.arraycopy(other.winds, 0, winds, 0, WINDS);
            System.arraycopy(other.settings, 0, settings, 0, SETTINGS);
            System.arraycopy(other.sizes, 0, sizes, 0, HOUSES);
            System.arraycopy(other.bookedCounts, 0, bookedCounts, 0, HOUSES);
            System.arraycopy(other.setCounts, 0, setCounts, 0, HOUSES);
            System.arraycopy(other.weights, 0, weights, 0, PLACES);
            System.arraycopy(other.prices, 0, prices, 0, PLACES);
            System.arraycopy(other.days, 0, days, 0, PLACES);
            System.arraycopy(other.paid, 0, paid, 0, PLACES);
            System.arraycopy(other.claimed, 0, claimed, 0, PLACES);
            System.arraycopy(other.moves, 0, moves, 0, PLACES);
            System.arraycopy(other.shares, 0, shares, 0, PLACES * TRADES);
            System.arraycopy(other.snags, 0, snags, 0, PLACES * TRADES);
            System.arraycopy(other.tallies, 0, tallies, 0, TRADES * TALLIES);
            System.arraycopy(other.queue, 0, queue, 0, PLACES);
        }

        void putHouse(HouseReader reader) {
            if (houseCount >= HOUSES) {
                return;
            }
            int first = placeOf(houseCount, 0);
            for (int i = 0; i < reader.size; i++) {
                weights[first + i] = reader.weights[i];
                prices[first + i] = reader.prices[i];
            }
            sizes[houseCount] = reader.size;
            houseCount++;
        }

        void putWinds(WindReader reader) {
            int length = 0;
            for (int i = 0; i < reader.parts; i++) {
                for (int k = 0; k < reader.times[i] && length < WINDS; k++) {
                    winds[length] = reader.winds[i];
                    length++;
                }
            }
            windCount = length;
        }

        int windOf(int number) {
            return number < 0 || windCount < 1 ? 0 : winds[number % windCount];
        }

        boolean canLift(int place, int number) {
            return windOf(number) <= 8 - 2 * weights[place];
        }

        /** The day of the module ahead of a module of the house that begins at a place. */
        int dayAhead(int first, int module) {
            return module < 1 ? NONE : days[first + module - 1];
        }

        int stageOf(int house, int module) {
            if (module < setCounts[house]) {
                return 2;
            }
            return module < bookedCounts[house] ? 1 : 0;
        }

        void bookPlace(int place, int number) {
            if (queueLength >= PLACES) {
                return;
            }
            queue[queueLength] = place;
            queueLength++;
            days[place] = number;
            bookedCounts[place / HOUSE_MODULES]++;
        }

        int unbookPlace(int place) {
            int kept = 0;
            for (int i = 0; i < queueLength; i++) {
                if (queue[i] != place) {
                    queue[kept] = queue[i];
                    kept++;
                }
            }
            queueLength = kept;
            bookedCounts[place / HOUSE_MODULES]--;
            int number = days[place];
            days[place] = NONE;
            return number;
        }

        /** Sets the modules of today that can be set; tells whether one of today is left. */
        boolean setTodays() {
            int kept = 0;
            boolean isLeft = false;
            for (int i = 0; i < queueLength; i++) {
                int place = queue[i];
                boolean isDue = days[place] == today;
                if (isDue && canBeSet(place)) {
                    setPlace(place);
                } else {
                    isLeft = isLeft || isDue;
                    queue[kept] = place;
                    kept++;
                }
            }
            queueLength = kept;
            return isLeft;
        }

        private boolean canBeSet(int place) {
            boolean isNext = setCounts[place / HOUSE_MODULES] == place % HOUSE_MODULES;
            return isNext && canLift(place, today);
        }

        private void setPlace(int place) {
            setCounts[place / HOUSE_MODULES]++;
            int held = prices[place] * settings[HOLD] / 100;
            paid[place] = prices[place] - held;
            for (int trade = 0; trade < TRADES; trade++) {
                int more = trade < held % TRADES ? 1 : 0;
                shares[cellOf(place, trade)] = held / TRADES + more;
            }
        }

        void moveShare(int place, int to, int from, int amount) {
            shares[cellOf(place, from)] -= amount;
            claimed[place] += amount;
            addTally(to, CLAIMED_BY, amount);
            addTally(from, CLAIMED_FROM, amount);
        }

        int payShares(int place) {
            int sum = 0;
            for (int trade = 0; trade < TRADES; trade++) {
                int cell = cellOf(place, trade);
                if (snags[cell] == 0) {
                    sum += shares[cell];
                    shares[cell] = 0;
                }
            }
            paid[place] += sum;
            return sum;
        }

        void addTally(int trade, int tally, int more) {
            tallies[trade * TALLIES + tally] += more;
        }

        int tallyOf(int trade, int tally) {
            return tallies[trade * TALLIES + tally];
        }

        int modulesSet() {
            return sumOf(setCounts, 0, HOUSES);
        }

        int pricesSet() {
            int sum = 0;
            for (int i = 0; i < HOUSES; i++) {
                sum += sumOf(prices, placeOf(i, 0), setCounts[i]);
            }
            return sum;
        }

        int bookedFor(int number) {
            int sum = 0;
            for (int i = 0; i < queueLength; i++) {
                sum += days[queue[i]] == number ? 1 : 0;
            }
            return sum;
        }

        int weightFor(int number) {
            int sum = 0;
            for (int i = 0; i < queueLength; i++) {
                sum += days[queue[i]] == number ? weights[queue[i]] : 0;
            }
            return sum;
        }

        int setOn(int number) {
            int sum = 0;
            for (int i = 0; i < HOUSES; i++) {
                for (int k = 0; k < setCounts[i]; k++) {
                    sum += days[placeOf(i, k)] == number ? 1 : 0;
                }
            }
            return sum;
        }
    }

    /**
     * Tells which days have room, as to the modules that were put on them
     * here, and lets days pass in a yard.
     */
    private static final class Slots {
        // No day is reached beyond that of a call, 300 days of ends() and one
        // more for each module: 1336. So each search ends below this.
        private static final int DAYS = 1400;

        private final int[] modules = new int[DAYS];
        private final int[] weights = new int[DAYS];
        // The days with modules, so that not all days have to be cleared.
        private final int[] used = new int[PLACES];
        private int usedLength;
        private final int[] moving = new int[PLACES];

        void takeIn(Yard yard) {
            clearDays();
            for (int i = 0; i < yard.queueLength; i++) {
                int place = yard.queue[i];
                putOn(yard.days[place], yard.weights[place]);
            }
        }

        /** Tells whether a module may be put on a day: not ahead of its house's order, and with room. */
        boolean isOpen(Yard yard, int place, int number) {
            int module = place % HOUSE_MODULES;
            return number >= yard.dayAhead(place - module, module) && hasRoom(yard, place, number);
        }

        void passDays(Yard yard, int days) {
            for (int i = 0; i < days; i++) {
                boolean isLeft = yard.setTodays();
                yard.today++;
                if (isLeft) {
                    moveAll(yard);
                }
            }
        }

        private void moveAll(Yard yard) {
            sortByDay(yard);
            clearDays();
            for (int i = 0; i < yard.queueLength; i++) {
                int place = moving[i];
                int to = firstOpen(yard, place);
                if (to != yard.days[place]) {
                    yard.days[place] = to;
                    yard.moves[place]++;
                }
                putOn(to, yard.weights[place]);
            }
        }

        /** An insertion keeps the order of booking among modules of the same day. */
        private void sortByDay(Yard yard) {
            for (int i = 0; i < yard.queueLength; i++) {
                int place = yard.queue[i];
                int k = i;
                while (k > 0 && yard.days[moving[k - 1]] > yard.days[place]) {
                    moving[k] = moving[k - 1];
                    k--;
                }
                moving[k] = place;
            }
        }

        private int firstOpen(Yard yard, int place) {
            int first = Math.max(yard.days[place], yard.today);
            for (int number = first; number < DAYS; number++) {
                if (isOpen(yard, place, number)) {
                    return number;
                }
            }
            return first;
        }

        private boolean hasRoom(Yard yard, int place, int number) {
            if (number < 0 || number >= DAYS) {
                return false;
            }
            return modules[number] < yard.settings[ROAD]
                    && weights[number] + yard.weights[place] <= yard.settings[CRANE];
        }

        private void putOn(int number, int weight) {
            if (number < 0 || number >= DAYS || usedLength >= PLACES) {
                return;
            }
            modules[number]++;
            weights[number] += weight;
            used[usedLength] = number;
            usedLength++;
        }

        private void clearDays() {
            for (int i = 0; i < usedLength; i++) {
                modules[used[i]] = 0;
                weights[used[i]] = 0;
            }
            usedLength = 0;
        }
    }

    /** The saved states: a ring, so that the oldest one gives its rows to the newest. */
    private static final class SavedYards {
        private final Yard[] yards = new Yard[SAVED];
        private int oldest;
        int size;

        SavedYards() {
            for (int i = 0; i < SAVED; i++) {
                yards[i] = new Yard();
            }
        }

        void save(Yard yard) {
            yards[(oldest + size) % SAVED].copyFrom(yard);
            if (size < SAVED) {
                size++;
            } else {
                oldest = (oldest + 1) % SAVED;
            }
        }

        void restore(Yard yard) {
            if (size < 1) {
                return;
            }
            size--;
            yard.copyFrom(yards[(oldest + size) % SAVED]);
        }
    }

    /** The buffer. */
    private static final class InputText {
        final int[] codes = new int[CODES];
        int length;

        int put(int code) {
            if (length < CODES) {
                codes[length] = code;
                length++;
            }
            return length;
        }

        int empty() {
            int before = length;
            length = 0;
            return before;
        }

        int errorFor(TextReader reader) {
            reader.restart();
            for (int i = 0; i < length; i++) {
                if (!reader.accepts(codes[i])) {
                    return i;
                }
            }
            return length;
        }

        boolean isComplete(TextReader reader) {
            return errorFor(reader) == length && reader.isAtEnd();
        }
    }

    /** Reads a text of one kind, a character at a time. */
    private interface TextReader {
        void restart();

        /** Reads a character, if a text of the kind can go on with it. */
        boolean accepts(int code);

        /** Tells whether what was read is a whole text of the kind. */
        boolean isAtEnd();
    }

    private static boolean isDigit(int code) {
        return code >= '0' && code <= '9';
    }

    private static final class HouseReader implements TextReader {
        private static final int WEIGHT = 0;
        private static final int COLON = 1;
        private static final int PRICE = 2;

        final int[] weights = new int[HOUSE_MODULES];
        final int[] prices = new int[HOUSE_MODULES];
        int size;
        private int awaited;

        public void restart() {
            size = 0;
            awaited = WEIGHT;
        }

        public boolean accepts(int code) {
            switch (awaited) {
                case WEIGHT:
                    return acceptsWeight(code);
                case COLON:
                    awaited = code == ':' ? PRICE : COLON;
                    return code == ':';
                default:
                    return code == ',' ? acceptsComma() : acceptsPriceDigit(code);
            }
        }

        public boolean isAtEnd() {
            return awaited == PRICE && lastPrice() > 0;
        }

        private boolean acceptsWeight(int code) {
            if (code < '1' || code > '3' || size >= HOUSE_MODULES) {
                return false;
            }
            weights[size] = code - '0';
            prices[size] = 0;
            size++;
            awaited = COLON;
            return true;
        }

        private boolean acceptsComma() {
            if (lastPrice() < 1 || size >= HOUSE_MODULES) {
                return false;
            }
            awaited = WEIGHT;
            return true;
        }

        private boolean acceptsPriceDigit(int code) {
            if (!isDigit(code) || size < 1) {
                return false;
            }
            int price = lastPrice() * 10 + code - '0';
            if (price < 1 || price > MOST_PRICE) {
                return false;
            }
            prices[size - 1] = price;
            return true;
        }

        private int lastPrice() {
            return size < 1 ? 0 : prices[size - 1];
        }
    }

    private static final class WindReader implements TextReader {
        private static final int WIND = 0;
        private static final int STAR = 1;
        private static final int TIMES = 2;
        private static final int LEAST_TIMES = 2;
        private static final int MOST_TIMES = 60;

        final int[] winds = new int[CODES];
        final int[] times = new int[CODES];
        int parts;
        private int awaited;

        public void restart() {
            parts = 0;
            awaited = WIND;
        }

        public boolean accepts(int code) {
            switch (awaited) {
                case WIND:
                    return acceptsWind(code);
                case STAR:
                    return code == ',' ? acceptsComma() : acceptsStar(code);
                default:
                    return code == ',' ? acceptsComma() : acceptsTimesDigit(code);
            }
        }

        public boolean isAtEnd() {
            return awaited == STAR || (awaited == TIMES && lastTimes() >= LEAST_TIMES);
        }

        int total() {
            return sumOf(times, 0, parts);
        }

        private boolean acceptsWind(int code) {
            if (!isDigit(code) || parts >= CODES) {
                return false;
            }
            winds[parts] = code - '0';
            times[parts] = 1;
            parts++;
            awaited = STAR;
            return true;
        }

        private boolean acceptsComma() {
            if (!isAtEnd()) {
                return false;
            }
            awaited = WIND;
            return true;
        }

        private boolean acceptsStar(int code) {
            if (code != '*' || parts < 1) {
                return false;
            }
            times[parts - 1] = 0;
            awaited = TIMES;
            return true;
        }

        /** A 1 is no number of times, but 10 to 19 begin with it. */
        private boolean acceptsTimesDigit(int code) {
            if (!isDigit(code) || parts < 1) {
                return false;
            }
            int number = lastTimes() * 10 + code - '0';
            if (number < 1 || number > MOST_TIMES) {
                return false;
            }
            times[parts - 1] = number;
            return true;
        }

        private int lastTimes() {
            return parts < 1 ? 0 : times[parts - 1];
        }
    }
}
