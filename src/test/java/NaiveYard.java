import java.util.ArrayDeque;
import java.util.ArrayList;
import java.util.Comparator;
import java.util.Deque;
import java.util.List;
import java.util.regex.Matcher;
import java.util.regex.Pattern;

/**
 * The document once more, written as plainly as can be and without a look at
 * speed: lists of modules, patterns for texts, whole copies for undo.
 */
final class NaiveYard {
    private static final Pattern HOUSE = Pattern.compile("[123]:[1-9][0-9]{0,3}(,[123]:[1-9][0-9]{0,3}){0,5}");
    private static final String PART = "[0-9](\\*([2-9]|[1-5][0-9]|60))?";
    private static final Pattern WINDS = Pattern.compile(PART + "(," + PART + ")*");
    private static final int[][] RANGES = {{1, 3}, {3, 9}, {0, 30}, {1, 100}, {0, 30}};

    private static final class Part {
        int house;
        int number;
        int weight;
        int price;
        boolean booked;
        boolean set;
        int day = -1;
        long booking;
        int paid;
        int claimed;
        int moved;
        int[] share = new int[4];
        int[] open = new int[4];

        Part copy() {
            Part other = new Part();
            other.house = house;
            other.number = number;
            other.weight = weight;
            other.price = price;
            other.booked = booked;
            other.set = set;
            other.day = day;
            other.booking = booking;
            other.paid = paid;
            other.claimed = claimed;
            other.moved = moved;
            other.share = share.clone();
            other.open = open.clone();
            return other;
        }

        int held() {
            return share[0] + share[1] + share[2] + share[3];
        }

        int snags() {
            return open[0] + open[1] + open[2] + open[3];
        }
    }

    private static final class State {
        List<List<Part>> houses = new ArrayList<>();
        List<Integer> winds = new ArrayList<>(List.of(3));
        int[] settings = {2, 5, 10, 20, 5};
        int today = 0;
        long bookings = 0;
        int[][] trades = new int[4][6];

        State copy() {
            State other = new State();
            for (List<Part> house : houses) {
                List<Part> parts = new ArrayList<>();
                house.forEach(part -> parts.add(part.copy()));
                other.houses.add(parts);
            }
            other.winds = new ArrayList<>(winds);
            other.settings = settings.clone();
            other.today = today;
            other.bookings = bookings;
            for (int i = 0; i < 4; i++) {
                other.trades[i] = trades[i].clone();
            }
            return other;
        }

        List<Part> all() {
            List<Part> parts = new ArrayList<>();
            houses.forEach(parts::addAll);
            return parts;
        }

        List<Part> waiting() {
            List<Part> parts = all();
            parts.removeIf(part -> !part.booked || part.set);
            parts.sort(Comparator.comparingLong(part -> part.booking));
            return parts;
        }

        List<Part> set() {
            List<Part> parts = all();
            parts.removeIf(part -> !part.set);
            return parts;
        }

        int wind(int day) {
            return winds.get(day % winds.size());
        }

        boolean lifts(Part part, int day) {
            return wind(day) <= 8 - 2 * part.weight;
        }

        boolean room(List<Part> placed, Part part, int day) {
            int number = 0;
            int weight = part.weight;
            for (Part other : placed) {
                if (other.day == day) {
                    number++;
                    weight += other.weight;
                }
            }
            return number < settings[0] && weight <= settings[1];
        }

        int dayAhead(Part part) {
            return part.number == 0 ? 0 : houses.get(part.house).get(part.number - 1).day;
        }

        void passOne() {
            boolean stuck = false;
            for (Part part : waiting()) {
                if (part.day != today) {
                    continue;
                }
                boolean ready = houses.get(part.house).subList(0, part.number).stream().allMatch(other -> other.set);
                if (ready && lifts(part, today)) {
                    lift(part);
                } else {
                    stuck = true;
                }
            }
            today++;
            if (stuck) {
                move();
            }
        }

        void lift(Part part) {
            part.set = true;
            int held = part.price * settings[2] / 100;
            part.paid = part.price - held;
            for (int i = 0; i < held; i++) {
                part.share[i % 4]++;
            }
        }

        void move() {
            List<Part> parts = waiting();
            parts.sort(Comparator.<Part>comparingInt(part -> part.day).thenComparingLong(part -> part.booking));
            List<Part> placed = new ArrayList<>();
            for (Part part : parts) {
                int day = Math.max(Math.max(part.day, today), dayAhead(part));
                while (!room(placed, part, day)) {
                    day++;
                }
                if (day != part.day) {
                    part.moved++;
                }
                part.day = day;
                placed.add(part);
            }
        }
    }

    private State state = new State();
    private final Deque<State> saved = new ArrayDeque<>();
    private String buffer = "";

    private void save() {
        saved.addLast(state.copy());
        if (saved.size() > 6) {
            saved.removeFirst();
        }
    }

    private static void index(boolean ok) {
        if (!ok) {
            throw new IndexOutOfBoundsException();
        }
    }

    private static void argument(boolean ok) {
        if (!ok) {
            throw new IllegalArgumentException();
        }
    }

    private static void legal(boolean ok) {
        if (!ok) {
            throw new IllegalStateException();
        }
    }

    private static boolean within(int value, int least, int most) {
        return least <= value && value <= most;
    }

    private List<Part> houseAt(int house) {
        index(within(house, 0, state.houses.size() - 1));
        return state.houses.get(house);
    }

    private Part partAt(int house, int module) {
        List<Part> parts = houseAt(house);
        index(within(module, 0, parts.size() - 1));
        return parts.get(module);
    }

    private static Part firstUnbooked(List<Part> parts) {
        return parts.stream().filter(part -> !part.booked).findFirst().orElse(null);
    }

    private boolean canBook(Part part, int day) {
        return part != null && day >= state.dayAhead(part) && state.room(state.waiting(), part, day);
    }

    public int book(int house, int day) {
        List<Part> parts = houseAt(house);
        argument(within(day, state.today, 999));
        legal(canBook(firstUnbooked(parts), day));
        save();
        Part part = firstUnbooked(parts);
        part.booked = true;
        part.day = day;
        part.booking = state.bookings++;
        return part.number;
    }

    public int unbook(int house) {
        Part last = null;
        for (Part part : houseAt(house)) {
            last = part.booked && !part.set ? part : last;
        }
        legal(last != null);
        save();
        int day = last.day;
        last.booked = false;
        last.day = -1;
        return day;
    }

    public int set(int setting, int value) {
        index(within(setting, 0, 4));
        argument(within(value, RANGES[setting][0], RANGES[setting][1]));
        save();
        int before = state.settings[setting];
        state.settings[setting] = value;
        return before;
    }

    public int pass(int days) {
        argument(within(days, 1, 60));
        legal(state.today + days <= 1000);
        save();
        int before = state.set().size();
        for (int i = 0; i < days; i++) {
            state.passOne();
        }
        return state.set().size() - before;
    }

    public int inspect(int house, int module, int trade, int snags) {
        Part part = partAt(house, module);
        index(within(trade, 0, 3));
        argument(within(snags, 1, 9));
        legal(part.set && part.open[trade] + snags <= 99);
        save();
        part.open[trade] += snags;
        state.trades[trade][4] += snags;
        return part.open[trade];
    }

    public int fix(int house, int module, int trade, int by) {
        Part part = partAt(house, module);
        index(within(trade, 0, 3) && within(by, 0, 3));
        legal(part.open[trade] > 0);
        save();
        part.open[trade]--;
        int amount = by == trade ? 0 : Math.min(state.settings[3], part.share[trade]);
        state.trades[by][5] += by == trade ? 0 : 1;
        take(part, by, trade, amount);
        return amount;
    }

    private void take(Part part, int to, int from, int amount) {
        part.share[from] -= amount;
        part.claimed += amount;
        state.trades[to][0] += amount;
        state.trades[from][1] += amount;
    }

    public int claim(int house, int module, int from, int against, int amount) {
        Part part = partAt(house, module);
        index(within(from, 0, 3) && within(against, 0, 3));
        argument(within(amount, 1, 9999) && from != against);
        legal(part.share[against] >= amount);
        save();
        take(part, from, against, amount);
        return part.share[against];
    }

    public int release(int house, int module) {
        Part part = partAt(house, module);
        legal(part.set && state.today >= part.day + state.settings[4]);
        save();
        int before = part.paid;
        for (int trade = 0; trade < 4; trade++) {
            if (part.open[trade] == 0) {
                part.paid += part.share[trade];
                part.share[trade] = 0;
            }
        }
        return part.paid - before;
    }

    public int append(int code) {
        argument(within(code, 33, 126));
        legal(buffer.length() < 60);
        buffer += (char) code;
        return buffer.length();
    }

    public int clearBuffer() {
        int before = buffer.length();
        buffer = "";
        return before;
    }

    /** A beginning is right if it matches, or if the pattern ran out of characters. */
    public int firstError(boolean isHouse) {
        for (int i = 0; i < buffer.length(); i++) {
            Matcher matcher = (isHouse ? HOUSE : WINDS).matcher(buffer.substring(0, i + 1));
            if (!matcher.matches() && !matcher.hitEnd()) {
                return i;
            }
        }
        return buffer.length();
    }

    public int addHouse() {
        argument(HOUSE.matcher(buffer).matches());
        legal(state.houses.size() < 6);
        save();
        List<Part> parts = new ArrayList<>();
        for (String text : buffer.split(",")) {
            Part part = new Part();
            part.house = state.houses.size();
            part.number = parts.size();
            part.weight = Integer.parseInt(text.split(":")[0]);
            part.price = Integer.parseInt(text.split(":")[1]);
            parts.add(part);
        }
        state.houses.add(parts);
        buffer = "";
        return state.houses.size() - 1;
    }

    public int setWinds() {
        argument(WINDS.matcher(buffer).matches());
        List<Integer> row = new ArrayList<>();
        for (String text : buffer.split(",")) {
            int times = text.contains("*") ? Integer.parseInt(text.substring(2)) : 1;
            for (int i = 0; i < times; i++) {
                row.add(text.charAt(0) - '0');
            }
        }
        legal(row.size() <= 60);
        save();
        state.winds = row;
        buffer = "";
        return row.size();
    }

    public int undo() {
        legal(!saved.isEmpty());
        state = saved.removeLast();
        return saved.size();
    }

    public int house(int house, int what) {
        List<Part> parts = houseAt(house);
        argument(within(what, 0, 6));
        int day = -1;
        for (Part part : parts) {
            day = part.booked ? part.day : day;
        }
        return new int[] {
            parts.size(),
            (int) parts.stream().filter(part -> part.booked).count(),
            (int) parts.stream().filter(part -> part.set).count(),
            parts.stream().mapToInt(part -> part.price).sum(),
            parts.stream().mapToInt(Part::snags).sum(),
            parts.stream().mapToInt(Part::held).sum(),
            day,
        }[what];
    }

    public int module(int house, int module, int what) {
        Part part = partAt(house, module);
        argument(within(what, 0, 8));
        int stage = part.set ? 2 : part.booked ? 1 : 0;
        return new int[] {
            part.weight, part.price, stage, part.day, part.paid, part.held(), part.claimed, part.snags(), part.moved,
        }[what];
    }

    public int share(int house, int module, int trade, int what) {
        Part part = partAt(house, module);
        index(within(trade, 0, 3));
        argument(within(what, 0, 1));
        return what == 0 ? part.share[trade] : part.open[trade];
    }

    public int trade(int trade, int what) {
        index(within(trade, 0, 3));
        argument(within(what, 0, 5));
        if (what == 2) {
            return state.all().stream().mapToInt(part -> part.open[trade]).sum();
        }
        if (what == 3) {
            return state.all().stream().mapToInt(part -> part.share[trade]).sum();
        }
        return state.trades[trade][what];
    }

    public int day(int day, int what) {
        argument(within(day, 0, 9999) && within(what, 0, 3));
        return new int[] {
            state.wind(day),
            (int) state.waiting().stream().filter(part -> part.day == day).count(),
            state.waiting().stream().filter(part -> part.day == day).mapToInt(part -> part.weight).sum(),
            (int) state.set().stream().filter(part -> part.day == day).count(),
        }[what];
    }

    public int count(int what) {
        argument(within(what, 0, 12));
        return new int[] {
            state.houses.size(),
            state.all().size(),
            state.waiting().size(),
            state.set().size(),
            state.today,
            state.winds.size(),
            state.set().stream().mapToInt(part -> part.price).sum(),
            state.all().stream().mapToInt(part -> part.paid).sum(),
            state.all().stream().mapToInt(Part::held).sum(),
            state.all().stream().mapToInt(part -> part.claimed).sum(),
            state.all().stream().mapToInt(Part::snags).sum(),
            state.all().stream().mapToInt(part -> part.moved).sum(),
            saved.size(),
        }[what];
    }

    public int setting(int setting) {
        index(within(setting, 0, 4));
        return state.settings[setting];
    }

    public int ends() {
        State trial = state.copy();
        int last = -1;
        for (int i = 0; i < 300; i++) {
            int before = trial.waiting().size();
            trial.passOne();
            last = trial.waiting().size() < before ? trial.today - 1 : last;
        }
        return trial.waiting().isEmpty() ? last : -1;
    }

    public int bestDay(int house) {
        Part part = firstUnbooked(houseAt(house));
        for (int day = state.today; day < state.today + 100; day++) {
            if (day <= 999 && canBook(part, day) && state.lifts(part, day)) {
                return day;
            }
        }
        return -1;
    }

    public int ifPassed(int days, int house) {
        index(house == -1 || within(house, 0, state.houses.size() - 1));
        argument(within(days, 1, 60));
        State trial = state.copy();
        for (int i = 0; i < days; i++) {
            trial.passOne();
        }
        int sum = 0;
        for (Part part : trial.set()) {
            boolean isNew = !state.houses.get(part.house).get(part.number).set;
            sum += isNew && (house == -1 || part.house == house) ? 1 : 0;
        }
        return sum;
    }

    public int worstTrade() {
        return List.of(0, 1, 2, 3).stream()
                .filter(trade -> trade(trade, 2) > 0)
                .min(Comparator.<Integer>comparingInt(trade -> -trade(trade, 2)).thenComparingInt(trade -> trade(trade, 3)))
                .orElse(-1);
    }

    public double heldShare() {
        return count(6) == 0 ? 0.0 : (double) count(8) / count(6);
    }

    public long digest() {
        List<Long> values = new ArrayList<>();
        for (int what = 0; what <= 12; what++) {
            values.add((long) count(what));
        }
        for (int setting : state.settings) {
            values.add((long) setting);
        }
        state.winds.forEach(wind -> values.add((long) wind));
        for (int house = 0; house < state.houses.size(); house++) {
            addHouseValues(values, house);
        }
        for (int trade = 0; trade < 4; trade++) {
            for (int what = 0; what <= 5; what++) {
                values.add((long) trade(trade, what));
            }
        }
        for (int i = 0; i < 10; i++) {
            values.add((long) day(state.today + i, 1));
            values.add((long) day(state.today + i, 2));
        }
        values.add((long) ends());
        values.add((long) worstTrade());
        values.add((long) ifPassed(10, -1));
        values.add(Double.doubleToLongBits(heldShare()));
        values.add((long) buffer.length());
        buffer.chars().forEach(code -> values.add((long) code));
        return values.stream().reduce(2293L, (hash, value) -> 31 * hash + value);
    }

    private void addHouseValues(List<Long> values, int house) {
        for (int what = 0; what <= 6; what++) {
            values.add((long) house(house, what));
        }
        for (int module = 0; module < state.houses.get(house).size(); module++) {
            for (int what = 0; what <= 8; what++) {
                values.add((long) module(house, module, what));
            }
            for (int trade = 0; trade < 4; trade++) {
                values.add((long) share(house, module, trade, 0));
                values.add((long) share(house, module, trade, 1));
            }
        }
        values.add((long) bestDay(house));
    }
}
