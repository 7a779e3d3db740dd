import java.math.BigInteger;
import java.util.ArrayDeque;
import java.util.ArrayList;
import java.util.Deque;
import java.util.HashMap;
import java.util.LinkedHashSet;
import java.util.List;
import java.util.Map;
import java.util.NoSuchElementException;
import java.util.Set;
import java.util.TreeSet;
import java.util.regex.Matcher;
import java.util.regex.Pattern;

/**
 * The document once more, written from its words with the Java library and as little cleverness as
 * possible: where a promise says "the greatest .. for which", all of them are tried. ModelRunTests
 * holds the class against it.
 */
final class Model {
    private static final String FIRST = "cooperative 30 5000;classes 90 75 60;variety red;variety rose;"
            + "price red 0 12;price red 1 9;price red 2 5;price rose 0 10;price rose 1 8;grower ann;grower bert;"
            + "plot ann red 20;plot bert red 10;plot bert rose 8;tank 700;tank 500;tank 300;load 0 400 92;"
            + "load 1 280 78;load 2 200 76;load 1 90 95;";
    /** What follows the first word of a statement; classes has a row of its own length. */
    private static final Map<String, String> FORMS = Map.ofEntries(
            Map.entry("cooperative", "yield cash ;"), Map.entry("variety", "newname ;"),
            Map.entry("price", "variety class cents ;"), Map.entry("grower", "newname ;"),
            Map.entry("plot", "grower variety area ;"), Map.entry("tank", "capacity ;"),
            Map.entry("load", "plot weight sugar ;"), Map.entry("bottle", "tank bottles ;"),
            Map.entry("sell", "lot bottles sale ;"), Map.entry("pay", "grower ;"),
            Map.entry("pump", "tank second ;"));

    /** Everything that undo brings back. */
    private static final class State {
        final List<Integer> lowest = new ArrayList<>();
        final List<String> varieties = new ArrayList<>();
        final List<String> growers = new ArrayList<>();
        final Map<Integer, Integer> prices = new HashMap<>();
        final List<int[]> plots = new ArrayList<>();
        final List<Delivered> loads = new ArrayList<>();
        final List<Vat> tanks = new ArrayList<>();
        final List<int[]> lots = new ArrayList<>();
        int yield;
        long textCash;
        long cash;
        long sales;
        long payments;

        State copy() {
            State s = new State();
            s.lowest.addAll(lowest);
            s.varieties.addAll(varieties);
            s.growers.addAll(growers);
            s.prices.putAll(prices);
            plots.forEach(p -> s.plots.add(p.clone()));
            loads.forEach(l -> s.loads.add(new Delivered(l.plot, l.weight, l.sugar, l.grade, l.tank, l.paid)));
            tanks.forEach(t -> s.tanks.add(new Vat(t.capacity, t.content, t.variety, t.sum)));
            lots.forEach(l -> s.lots.add(l.clone()));
            s.yield = yield;
            s.textCash = textCash;
            s.cash = cash;
            s.sales = sales;
            s.payments = payments;
            return s;
        }
    }

    /** A load; paid is -1 as long as it is not paid. */
    private static final class Delivered {
        final int plot;
        final int weight;
        final int sugar;
        final int grade;
        final int tank;
        int paid;

        Delivered(int plot, int weight, int sugar, int grade, int tank, int paid) {
            this.plot = plot;
            this.weight = weight;
            this.sugar = sugar;
            this.grade = grade;
            this.tank = tank;
            this.paid = paid;
        }
    }

    private static final class Vat {
        final int capacity;
        int content;
        int variety;
        int sum;

        Vat(int capacity, int content, int variety, int sum) {
            this.capacity = capacity;
            this.content = content;
            this.variety = variety;
            this.sum = sum;
        }

        int mean() {
            return content == 0 ? 0 : sum / content;
        }
    }

    private State state;
    private final Deque<State> changes = new ArrayDeque<>();
    private final State[] saved = new State[2];
    private String buffer = "";
    private String output = "";
    private int code = 0;
    private int offset = -1;

    Model() {
        buffer = FIRST;
        load();
        changes.clear();
    }

    /** The answer of the call: an Integer, Boolean, Float or Double, or it throws. */
    Object call(String name, int... a) {
        switch (name) {
            case "append": return append(a);
            case "truncate": return truncate(a[0]);
            case "load": return load();
            case "errorCode": return code;
            case "errorOffset": return offset;
            case "printTanks": return printTanks();
            case "outputByte":
                if (a[0] < 0 || a[0] >= output.length()) {
                    throw new NoSuchElementException();
                }
                return (int) output.charAt(a[0]);
            case "save": return save(a[0]);
            case "restore": return restore(a[0]);
            case "undo": return undo();
            case "deliver": case "setPrice": case "bottle": case "sell": case "payLoad": case "payGrower": case "pump":
                return change(name, a);
            default: return question(name, a);
        }
    }

    boolean takes(String text) {
        buffer = text;
        return load() >= 0;
    }

    /** No question of the face tells it. */
    int tankCount() {
        return state.tanks.size();
    }

    private int append(int[] words) {
        if (buffer.length() + 20 > 600) {
            throw new IllegalStateException();
        }
        StringBuilder all = new StringBuilder(buffer);
        for (int word : words) {
            for (int part = 3; part >= 0; part--) {
                all.append((char) (word >>> 8 * part & 0xff));
            }
        }
        buffer = all.toString();
        return buffer.length();
    }

    private int truncate(int length) {
        argument(length, 0, buffer.length());
        buffer = buffer.substring(0, length);
        return buffer.length();
    }

    private int load() {
        String text = buffer;
        buffer = "";
        State before = state;
        State fresh = new State();
        state = fresh;
        int[] error = parse(text);
        state = before;
        if (error != null) {
            code = error[0];
            offset = error[1];
            return -7;
        }
        code = 0;
        offset = -1;
        noted();
        state = fresh;
        return state.loads.size();
    }

    private void noted() {
        if (state == null) {
            return;
        }
        changes.addLast(state.copy());
        if (changes.size() > 6) {
            changes.removeFirst();
        }
    }

    private int save(int slot) {
        index(slot, 2);
        saved[slot] = state.copy();
        return (int) state.cash;
    }

    private int restore(int slot) {
        index(slot, 2);
        require(saved[slot] != null);
        noted();
        state = saved[slot].copy();
        return (int) state.cash;
    }

    private int undo() {
        require(!changes.isEmpty());
        state = changes.removeLast();
        return changes.size();
    }

    private Object change(String name, int... a) {
        State before = state;
        state = before.copy();
        try {
            int answer = carriedOut(name, a);
            State after = state;
            state = before;
            noted();
            state = after;
            return answer;
        } catch (RuntimeException e) {
            state = before;
            throw e;
        }
    }

    private int carriedOut(String name, int... a) {
        switch (name) {
            case "deliver": return deliver(a[0], a[1], a[2]);
            case "setPrice": return setPrice(a[0], a[1], a[2]);
            case "bottle": return bottle(a[0], a[1]);
            case "sell": return sell(a[0], a[1], a[2]);
            case "payLoad": return payLoad(a[0]);
            case "payGrower": return payGrower(a[0]);
            default: return pump(a[0], a[1]);
        }
    }

    private static void index(int number, int count) {
        if (number < 0 || number >= count) {
            throw new IndexOutOfBoundsException();
        }
    }

    private static void argument(int number, int low, int high) {
        if (number < low || number > high) {
            throw new IllegalArgumentException();
        }
    }

    private static void require(boolean good) {
        if (!good) {
            throw new IllegalStateException();
        }
    }

    // What the state tells

    private int growerOf(Delivered load) {
        return state.plots.get(load.plot)[0];
    }

    private int varietyOf(Delivered load) {
        return state.plots.get(load.plot)[1];
    }

    private int pairOf(Delivered load) {
        return 10 * varietyOf(load) + load.grade;
    }

    private int classBySugar(int sugar) {
        for (int low : state.lowest) {
            if (low <= sugar) {
                return state.lowest.indexOf(low);
            }
        }
        return -1;
    }

    private int value(Delivered load) {
        return load.paid >= 0 ? load.paid : load.weight * state.prices.getOrDefault(pairOf(load), 0);
    }

    private int harvested(int plot) {
        return state.loads.stream().filter(l -> l.plot == plot).mapToInt(l -> l.weight).sum();
    }

    private int limit(int plot) {
        return state.plots.get(plot)[2] * state.yield;
    }

    private int weightOf(int grower) {
        return state.loads.stream().filter(l -> growerOf(l) == grower).mapToInt(l -> l.weight).sum();
    }

    private int weightOfPair(int pair) {
        return state.loads.stream().filter(l -> pairOf(l) == pair).mapToInt(l -> l.weight).sum();
    }

    private int owed(int grower) {
        return state.loads.stream().filter(l -> growerOf(l) == grower && l.paid < 0).mapToInt(this::value).sum();
    }

    private int owedToAll() {
        return state.loads.stream().filter(l -> l.paid < 0).mapToInt(this::value).sum();
    }

    private List<Integer> pairs() {
        Set<Integer> found = new LinkedHashSet<>();
        state.loads.forEach(l -> found.add(pairOf(l)));
        return new ArrayList<>(found);
    }

    private int tankFor(int variety, int weight) {
        for (int i = 0; i < state.tanks.size(); i++) {
            Vat tank = state.tanks.get(i);
            if (tank.content > 0 && tank.variety == variety && tank.content + weight <= tank.capacity) {
                return i;
            }
        }
        for (int i = 0; i < state.tanks.size(); i++) {
            Vat tank = state.tanks.get(i);
            if (tank.content == 0 && weight <= tank.capacity) {
                return i;
            }
        }
        return -1;
    }

    private int refusal(int plot, int weight, int sugar) {
        if (state.loads.size() == 20) {
            return 1;
        }
        if (classBySugar(sugar) < 0) {
            return 2;
        }
        return tankFor(state.plots.get(plot)[1], weight) < 0 ? 3 : 0;
    }

    private int classOf(int plot, int weight, int sugar) {
        return harvested(plot) + weight > limit(plot) ? state.lowest.size() - 1 : classBySugar(sugar);
    }

    private int payable() {
        State before = state;
        state = before.copy();
        int count = 0;
        try {
            for (int grower = 0; grower < state.growers.size(); grower++) {
                if (owed(grower) > 0) {
                    payGrower(grower);
                    count++;
                }
            }
        } catch (IllegalStateException e) {
            return count;
        } finally {
            state = before;
        }
        return count;
    }

    private int greatest(List<Integer> weights) {
        int best = -1;
        for (int i = 0; i < weights.size(); i++) {
            if (best < 0 || weights.get(i) > weights.get(best)) {
                best = i;
            }
        }
        return best;
    }

    private int greatestClass() {
        List<Integer> weights = new ArrayList<>();
        pairs().forEach(p -> weights.add(weightOfPair(p)));
        return weights.isEmpty() ? -1 : pairs().get(greatest(weights));
    }

    private int greatestGrower() {
        List<Integer> weights = new ArrayList<>();
        for (int grower = 0; grower < state.growers.size(); grower++) {
            weights.add(weightOf(grower));
        }
        return greatest(weights);
    }

    private int yieldLeft(int plot) {
        int most = 0;
        for (int weight = 1; weight <= 5000; weight++) {
            if (harvested(plot) + weight <= limit(plot)) {
                most = weight;
            }
        }
        return most;
    }

    private int greatestLoad(int variety) {
        int most = 0;
        for (int weight = 1; weight <= 5000; weight++) {
            if (tankFor(variety, weight) >= 0) {
                most = weight;
            }
        }
        return most;
    }

    private int sweetestLot() {
        int best = -1;
        for (int i = state.lots.size() - 1; i >= 0; i--) {
            if (state.lots.get(i)[3] > 0 && (best < 0 || state.lots.get(i)[1] >= state.lots.get(best)[1])) {
                best = i;
            }
        }
        return best;
    }

    private int bottlesOf(int variety) {
        return state.tanks.stream().filter(t -> t.content > 0 && t.variety == variety).mapToInt(t -> t.content).sum()
                + state.lots.stream().filter(l -> l[0] == variety).mapToInt(l -> l[3]).sum();
    }

    private int printTanks() {
        List<String> parts = new ArrayList<>();
        for (Vat tank : state.tanks) {
            parts.add(tank.content + (tank.content > 0 ? ":" + state.varieties.get(tank.variety) : ""));
        }
        output = String.join(" ", parts);
        return output.length();
    }

    private float fullness() {
        int capacity = state.tanks.stream().mapToInt(t -> t.capacity).sum();
        int content = state.tanks.stream().mapToInt(t -> t.content).sum();
        return state.tanks.isEmpty() ? 0.0f : (float) content / (float) capacity;
    }

    private double averageSugar() {
        int weight = state.loads.stream().mapToInt(l -> l.weight).sum();
        int sum = state.loads.stream().mapToInt(l -> l.weight * l.sugar).sum();
        return state.loads.isEmpty() ? 0.0 : (double) sum / (double) weight;
    }

    private Object question(String name, int... a) {
        switch (name) {
            case "varietyCount": return state.varieties.size();
            case "classCount": return state.lowest.size();
            case "growerCount": return state.growers.size();
            case "plotCount": return state.plots.size();
            case "loadCount": return state.loads.size();
            case "lotCount": return state.lots.size();
            case "deliveredClasses": return pairs().size();
            case "greatestClass": return greatestClass();
            case "greatestGrower": return greatestGrower();
            case "sweetestLot": return sweetestLot();
            case "missingCash": return state.cash < owedToAll() ? (int) (owedToAll() - state.cash) : 0;
            case "cash": return (int) state.cash;
            case "owedToAll": return owedToAll();
            case "payableGrowers": return payable();
            case "bottleDifference": return 0;
            case "cashDifference": return (int) (state.textCash + state.sales - state.payments - state.cash);
            case "fullness": return fullness();
            case "averageSugar": return averageSugar();
            case "classBySugar":
                argument(a[0], 0, 250);
                return classBySugar(a[0]);
            case "classInOrder":
                if (a[0] < 0 || a[0] >= pairs().size()) {
                    throw new NoSuchElementException();
                }
                return pairs().get(a[0]);
            case "price": case "weightOfClass":
                index(a[0], state.varieties.size());
                index(a[1], state.lowest.size());
                return name.equals("price") ? state.prices.getOrDefault(10 * a[0] + a[1], 0)
                        : weightOfPair(10 * a[0] + a[1]);
            default: return questionAboutOne(name, a);
        }
    }

    private Object questionAboutOne(String name, int... a) {
        switch (name) {
            case "plotsOf": case "weightOf": case "owed": case "paidTo": case "varietiesOf":
                index(a[0], state.growers.size());
                return aboutGrower(name, a[0]);
            case "yieldLimit": case "harvested": case "yieldLeft":
                index(a[0], state.plots.size());
                return name.equals("yieldLimit") ? limit(a[0])
                        : name.equals("harvested") ? harvested(a[0]) : yieldLeft(a[0]);
            case "plotOfLoad": case "classOfLoad": case "tankOfLoad": case "valueOf": case "isPaid": case "isLowered":
                index(a[0], state.loads.size());
                return aboutLoad(name, state.loads.get(a[0]));
            case "content": case "varietyIn": case "meanSugar":
                index(a[0], state.tanks.size());
                Vat tank = state.tanks.get(a[0]);
                return name.equals("content") ? tank.content
                        : name.equals("meanSugar") ? tank.mean() : tank.content == 0 ? -1 : tank.variety;
            case "tankFor":
                index(a[0], state.varieties.size());
                argument(a[1], 1, 5000);
                return tankFor(a[0], a[1]);
            case "greatestLoad":
                index(a[0], state.varieties.size());
                return greatestLoad(a[0]);
            case "refusal": case "valueIfDelivered":
                load(a[0], a[1], a[2]);
                return name.equals("refusal") ? refusal(a[0], a[1], a[2]) : valueIfDelivered(a[0], a[1], a[2]);
            case "lotVariety": case "lotSugar": case "unsold":
                index(a[0], state.lots.size());
                int[] lot = state.lots.get(a[0]);
                return name.equals("lotVariety") ? lot[0] : name.equals("lotSugar") ? lot[1] : lot[3];
            case "bottlesOf":
                index(a[0], state.varieties.size());
                return bottlesOf(a[0]);
            default: throw new AssertionError(name);
        }
    }

    private int aboutGrower(String name, int grower) {
        switch (name) {
            case "plotsOf": return (int) state.plots.stream().filter(p -> p[0] == grower).count();
            case "weightOf": return weightOf(grower);
            case "owed": return owed(grower);
            case "paidTo":
                return state.loads.stream().filter(l -> growerOf(l) == grower && l.paid >= 0).mapToInt(l -> l.paid).sum();
            default:
                return (int) state.loads.stream().filter(l -> growerOf(l) == grower).map(this::varietyOf).distinct()
                        .count();
        }
    }

    private Object aboutLoad(String name, Delivered load) {
        switch (name) {
            case "plotOfLoad": return load.plot;
            case "classOfLoad": return load.grade;
            case "tankOfLoad": return load.tank;
            case "valueOf": return value(load);
            case "isPaid": return load.paid >= 0;
            default: return load.grade != classBySugar(load.sugar);
        }
    }

    private void load(int plot, int weight, int sugar) {
        index(plot, state.plots.size());
        argument(weight, 1, 5000);
        argument(sugar, 0, 250);
    }

    private int valueIfDelivered(int plot, int weight, int sugar) {
        if (refusal(plot, weight, sugar) != 0) {
            return -1;
        }
        State before = state;
        state = before.copy();
        deliver(plot, weight, sugar);
        int value = value(state.loads.get(state.loads.size() - 1));
        state = before;
        return value;
    }

    // What changes the state; a call that throws may leave half of it, which change() takes back

    private int deliver(int plot, int weight, int sugar) {
        load(plot, weight, sugar);
        require(refusal(plot, weight, sugar) == 0);
        int number = tankFor(state.plots.get(plot)[1], weight);
        int grade = classOf(plot, weight, sugar);
        Vat tank = state.tanks.get(number);
        tank.variety = state.plots.get(plot)[1];
        tank.content += weight;
        tank.sum += weight * sugar;
        state.loads.add(new Delivered(plot, weight, sugar, grade, number, -1));
        return grade;
    }

    private int setPrice(int variety, int grade, int cents) {
        index(variety, state.varieties.size());
        index(grade, state.lowest.size());
        argument(cents, 0, 999);
        Integer previous = state.prices.put(10 * variety + grade, cents);
        return previous == null ? 0 : previous;
    }

    private int bottle(int number, int bottles) {
        index(number, state.tanks.size());
        argument(bottles, 1, 20000);
        Vat tank = state.tanks.get(number);
        require(tank.content >= bottles && state.lots.size() < 12);
        state.lots.add(new int[] {tank.variety, tank.mean(), bottles, bottles});
        int mean = tank.mean();
        tank.content -= bottles;
        tank.sum = tank.content == 0 ? 0 : tank.sum - bottles * mean;
        return state.lots.size() - 1;
    }

    private int sell(int number, int bottles, int cents) {
        index(number, state.lots.size());
        argument(bottles, 1, 20000);
        argument(cents, 1, 9999);
        long price = (long) bottles * cents;
        require(state.lots.get(number)[3] >= bottles && state.cash + price <= 1000000000);
        state.lots.get(number)[3] -= bottles;
        state.sales += price;
        state.cash += price;
        return (int) state.cash;
    }

    private int payLoad(int number) {
        index(number, state.loads.size());
        Delivered load = state.loads.get(number);
        require(load.paid < 0 && value(load) <= state.cash);
        load.paid = value(load);
        state.cash -= load.paid;
        state.payments += load.paid;
        return load.paid;
    }

    private int payGrower(int grower) {
        index(grower, state.growers.size());
        int sum = owed(grower);
        require(sum <= state.cash && state.loads.stream().anyMatch(l -> growerOf(l) == grower && l.paid < 0));
        for (int i = 0; i < state.loads.size(); i++) {
            if (growerOf(state.loads.get(i)) == grower && state.loads.get(i).paid < 0) {
                payLoad(i);
            }
        }
        return sum;
    }

    private int pump(int from, int to) {
        index(from, state.tanks.size());
        index(to, state.tanks.size());
        if (from == to) {
            throw new IllegalArgumentException();
        }
        Vat one = state.tanks.get(from);
        Vat other = state.tanks.get(to);
        require(one.content > 0 && (other.content == 0 || other.variety == one.variety)
                && other.content + one.content <= other.capacity);
        other.variety = one.variety;
        other.content += one.content;
        other.sum += one.sum;
        one.content = 0;
        one.sum = 0;
        return other.content;
    }

    // The setup text

    /** The error code and the offset, or null if there is no error. */
    private int[] parse(String text) {
        List<String> words = new ArrayList<>();
        List<Integer> places = new ArrayList<>();
        Matcher token = Pattern.compile("[a-z]+|[0-9]+|[^ \n]").matcher(text);
        while (token.find()) {
            words.add(token.group());
            places.add(token.start());
        }
        words.add("");
        places.add(text.length());
        int statements = 0;
        List<String> form = new ArrayList<>();
        List<String> past = new ArrayList<>();
        for (int i = 0; i < words.size(); i++) {
            String word = words.get(i);
            boolean atEnd = i == words.size() - 1;
            if (atEnd && form.isEmpty() && statements >= 2) {
                return null;
            }
            Set<Integer> errors = new TreeSet<>();
            if (form.isEmpty()) {
                beginsStatement(word, statements, errors);
                if (errors.isEmpty()) {
                    statements++;
                    past.clear();
                    past.add(word);
                    form.addAll(List.of(word.equals("classes") ? new String[] {"first"} : FORMS.get(word).split(" ")));
                }
            } else {
                String part = form.remove(0);
                if (part.equals("more") && word.equals(";")) {
                    part = ";";
                }
                follows(part, word, past, errors);
                past.add(word);
                if (errors.isEmpty() && (part.equals("first") || part.equals("more"))) {
                    state.lowest.add(Integer.parseInt(word));
                    form.add("more");
                }
                if (errors.isEmpty() && part.equals(";")) {
                    ends(past, errors);
                }
            }
            if (!errors.isEmpty()) {
                return new int[] {errors.iterator().next(), places.get(i)};
            }
        }
        return new int[] {1, text.length()};
    }

    private void beginsStatement(String word, int statements, Set<Integer> errors) {
        boolean allowed = statements == 0 ? word.equals("cooperative") : statements == 1 ? word.equals("classes")
                : FORMS.containsKey(word) && !word.equals("cooperative");
        if (!allowed) {
            errors.add(1);
        } else if (word.equals("variety") && state.varieties.size() == 4
                || word.equals("grower") && state.growers.size() == 6
                || word.equals("plot") && state.plots.size() == 8
                || word.equals("tank") && state.tanks.size() == 5) {
            errors.add(5);
        }
    }

    private void follows(String part, String word, List<String> past, Set<Integer> errors) {
        boolean isWord = word.matches("[a-z]+");
        boolean isNumber = word.matches("[0-9]+");
        switch (part) {
            case ";":
                mark(!word.equals(";"), 1, errors);
                return;
            case "newname":
                mark(!isWord, 1, errors);
                mark(isWord && word.length() > 4, 2, errors);
                mark(isWord && (state.varieties.contains(word) || state.growers.contains(word)), 3, errors);
                return;
            case "variety": case "grower":
                mark(!isWord, 1, errors);
                mark(!(part.equals("variety") ? state.varieties : state.growers).contains(word), 4, errors);
                return;
            default:
                mark(!isNumber, 1, errors);
                if (isNumber) {
                    number(part, new BigInteger(word), past, errors);
                }
        }
    }

    private static void mark(boolean wrong, int code, Set<Integer> errors) {
        if (wrong) {
            errors.add(code);
        }
    }

    private void number(String part, BigInteger number, List<String> past, Set<Integer> errors) {
        int low = Set.of("yield", "area", "capacity", "weight", "bottles", "sale").contains(part) ? 1 : 0;
        mark(number.compareTo(BigInteger.valueOf(low)) < 0, 2, errors);
        mark(number.compareTo(BigInteger.valueOf(highest(part))) > 0, 2, errors);
        if (part.equals("first") || part.equals("more")) {
            int count = state.lowest.size();
            mark(count == 4, 5, errors);
            mark(count > 0 && number.compareTo(BigInteger.valueOf(state.lowest.get(count - 1))) >= 0, 3, errors);
        }
        if (part.equals("second")) {
            mark(number.equals(new BigInteger(past.get(1))), 3, errors);
        }
    }

    private int highest(String part) {
        switch (part) {
            case "yield": return 200;
            case "cash": return 99999;
            case "first": case "more": return 200;
            case "class": return state.lowest.size() - 1;
            case "cents": return 999;
            case "area": return 99;
            case "capacity": case "bottles": return 20000;
            case "plot": return state.plots.size() - 1;
            case "weight": return 5000;
            case "sugar": return 250;
            case "tank": case "second": return state.tanks.size() - 1;
            case "lot": return state.lots.size() - 1;
            case "sale": return 9999;
            default: throw new AssertionError(part);
        }
    }

    /** The statement is whole: it is carried out, or its semicolon has error 6. */
    private void ends(List<String> past, Set<Integer> errors) {
        String second = past.get(1);
        switch (past.get(0)) {
            case "cooperative":
                state.yield = Integer.parseInt(second);
                state.textCash = Integer.parseInt(past.get(2));
                state.cash = state.textCash;
                return;
            case "classes": return;
            case "variety": state.varieties.add(second); return;
            case "grower": state.growers.add(second); return;
            case "price":
                setPrice(state.varieties.indexOf(second), Integer.parseInt(past.get(2)), Integer.parseInt(past.get(3)));
                return;
            case "plot":
                state.plots.add(new int[] {state.growers.indexOf(second), state.varieties.indexOf(past.get(2)),
                    Integer.parseInt(past.get(3))});
                return;
            case "tank": state.tanks.add(new Vat(Integer.parseInt(second), 0, -1, 0)); return;
            default: break;
        }
        try {
            if (past.get(0).equals("pay")) {
                payGrower(state.growers.indexOf(second));
                return;
            }
            int[] a = past.subList(1, past.size() - 1).stream().mapToInt(Integer::parseInt).toArray();
            carriedOut(past.get(0).equals("load") ? "deliver" : past.get(0), a);
        } catch (IllegalStateException e) {
            errors.add(6);
        }
    }
}
