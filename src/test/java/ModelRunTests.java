import java.lang.reflect.InvocationTargetException;
import java.lang.reflect.Method;
import java.nio.charset.StandardCharsets;
import java.util.ArrayList;
import java.util.Arrays;
import java.util.Comparator;
import java.util.List;
import java.util.NoSuchElementException;
import java.util.Random;

/**
 * Runs of 512 calls each, on setup texts and with arguments from fixed seeds: every answer and every
 * exception of the class must be that of the model.
 */
final class ModelRunTests {
    private static final int RUNS = 700;
    private static final int CALLS = 512;
    private static final int MOST_SHOWN = 10;
    private static final String[] CHANGES = {"deliver", "deliver", "deliver", "deliver", "bottle", "bottle", "sell",
        "sell", "payLoad", "payGrower", "pump", "pump", "setPrice"};
    private static final String[] BACK = {"save", "restore", "undo", "undo", "undo"};
    private static final List<Method> FACE = face();

    private static int shown = 0;

    private final Random random;
    private final WineCooperative x = new WineCooperative();
    private final Model model = new Model();
    private final List<String> told = new ArrayList<>();
    private int calls = 0;
    private boolean good = true;
    /** The piece of a setup text that is written now may be wrong. */
    private boolean fault = false;

    private ModelRunTests(long seed) {
        random = new Random(seed);
    }

    /** With two numbers: the first seed, and how many of them. */
    public static void main(String[] args) {
        long first = args.length == 2 ? Long.parseLong(args[0]) : 0;
        long runs = args.length == 2 ? Long.parseLong(args[1]) : RUNS;
        for (long seed = first; seed < first + runs && shown < MOST_SHOWN; seed++) {
            Check.part("run " + seed);
            new ModelRunTests(seed).run();
        }
        Check.finish("ModelRunTests");
    }

    private static List<Method> face() {
        List<Method> all = new ArrayList<>();
        for (Method method : WineCooperative.class.getMethods()) {
            if (method.getDeclaringClass() == WineCooperative.class) {
                all.add(method);
            }
        }
        all.sort(Comparator.comparing(Method::getName));
        return all;
    }

    /** In some runs little is taken back, so that they come to 20 loads and to 12 lots. */
    private void run() {
        boolean texts = random.nextInt(5) > 0;
        int textEvery = random.nextBoolean() ? 30 : 500;
        int backEvery = random.nextBoolean() ? 6 : 60;
        while (good && calls < CALLS) {
            if (texts && (calls == 0 || random.nextInt(textEvery) == 0)) {
                loadText();
            } else if (random.nextInt(backEvery) == 0) {
                ask(BACK[random.nextInt(BACK.length)]);
            } else if (random.nextInt(100) < 55) {
                ask(CHANGES[random.nextInt(CHANGES.length)]);
            } else if (random.nextInt(300) == 0) {
                printed();
            } else if (random.nextInt(300) == 0) {
                full();
            } else {
                ask(FACE.get(random.nextInt(FACE.size())).getName());
            }
        }
    }

    private void printed() {
        Object length = call("printTanks");
        for (int i = -1; good && i <= (Integer) length && calls < CALLS; i++) {
            call("outputByte", i);
        }
    }

    /** The buffer nearly at its end. */
    private void full() {
        for (int i = 0; i < 30; i++) {
            ask("append");
        }
        call("truncate", 570 + random.nextInt(31));
        ask("append");
        ask("append");
    }

    private void ask(String name) {
        call(name, arguments(name));
    }

    private Object call(String name, int... arguments) {
        if (calls >= CALLS) {
            return 0;
        }
        calls++;
        Object got = answer(name, arguments);
        Object due;
        try {
            due = model.call(name, arguments);
        } catch (IllegalStateException | IllegalArgumentException | IndexOutOfBoundsException
                | NoSuchElementException e) {
            due = e.getClass();
        }
        told.add(name + Arrays.toString(arguments) + " " + got);
        if (!due.equals(got)) {
            good = false;
            shown++;
            System.out.println(String.join("\n", told));
        }
        Check.same(name + Arrays.toString(arguments), got, due);
        return due;
    }

    private Object answer(String name, int... arguments) {
        for (Method method : FACE) {
            if (method.getName().equals(name)) {
                try {
                    return method.invoke(x, Arrays.stream(arguments).boxed().toArray());
                } catch (InvocationTargetException e) {
                    return e.getCause().getClass();
                } catch (IllegalAccessException e) {
                    return e.getClass();
                }
            }
        }
        return "no such method";
    }

    // Arguments: mostly good ones, at times at an edge or far outside

    private int[] arguments(String name) {
        switch (name) {
            case "append": return new int[] {word(), word(), word(), word(), word()};
            case "truncate": return new int[] {around(0, 40)};
            case "classBySugar": return new int[] {around(0, 250)};
            case "price": case "weightOfClass": return new int[] {number("variety"), number("class")};
            case "classInOrder": return new int[] {around(0, 6)};
            case "plotsOf": case "weightOf": case "owed": case "paidTo": case "varietiesOf": case "payGrower":
                return new int[] {number("grower")};
            case "yieldLimit": case "harvested": case "yieldLeft": return new int[] {number("plot")};
            case "plotOfLoad": case "classOfLoad": case "tankOfLoad": case "valueOf": case "isPaid": case "isLowered":
            case "payLoad":
                return new int[] {number("load")};
            case "content": case "varietyIn": case "meanSugar": return new int[] {tank()};
            case "tankFor": return new int[] {number("variety"), weight()};
            case "greatestLoad": case "bottlesOf": return new int[] {number("variety")};
            case "refusal": case "valueIfDelivered": case "deliver":
                return new int[] {number("plot"), weight(), random.nextInt(3) == 0 ? around(0, 250) : around(40, 120)};
            case "lotVariety": case "lotSugar": case "unsold": return new int[] {number("lot")};
            case "setPrice": return new int[] {number("variety"), number("class"), around(0, 999)};
            case "bottle": return new int[] {tank(), bottles()};
            case "sell": return new int[] {number("lot"), bottles(), random.nextBoolean() ? around(1, 9999) : around(1, 9)};
            case "pump": return new int[] {tank(), tank()};
            case "save": case "restore": return new int[] {around(0, 1)};
            case "outputByte": return new int[] {around(0, 40)};
            default: return new int[0];
        }
    }

    private int number(String kind) {
        return around(0, (Integer) model.call(kind + "Count") - 1);
    }

    private int tank() {
        return around(0, model.tankCount() - 1);
    }

    private int around(int low, int high) {
        switch (random.nextInt(40)) {
            case 0: return low - 1;
            case 1: return high + 1;
            case 2: return low;
            case 3: return high;
            case 4: return random.nextBoolean() ? Integer.MIN_VALUE : Integer.MAX_VALUE;
            case 5: return random.nextInt();
            default: return high < low ? low : low + random.nextInt(high - low + 1);
        }
    }

    private int weight() {
        int kind = random.nextInt(8);
        if (kind == 0) {
            return around(1, 5000);
        }
        if (kind == 1 && (Integer) model.call("varietyCount") > 0) {
            return (Integer) model.call("greatestLoad", random.nextInt((Integer) model.call("varietyCount")))
                    + random.nextInt(2);
        }
        if (kind == 2 && (Integer) model.call("plotCount") > 0) {
            return (Integer) model.call("yieldLeft", random.nextInt((Integer) model.call("plotCount")))
                    + random.nextInt(2);
        }
        return kind == 4 ? 400 : kind > 4 ? 10 * around(1, 3) : around(1, kind == 3 ? 400 : 30);
    }

    private int bottles() {
        switch (random.nextInt(6)) {
            case 0: return around(1, 20000);
            case 1: return around(1, 300);
            case 2: case 3: case 4: return around(1, 9);
            default:
                int lots = (Integer) model.call("lotCount");
                return lots > 0 && random.nextBoolean() ? (Integer) model.call("unsold", random.nextInt(lots))
                        : around(1, 60);
        }
    }

    private int word() {
        return random.nextInt(3) == 0 ? random.nextInt() : 0x20202020 + random.nextInt(95);
    }

    // Setup texts

    private void loadText() {
        call("truncate", 0);
        String text = random.nextInt(3) == 0 ? disturbed(text()) : text();
        byte[] bytes = text.getBytes(StandardCharsets.ISO_8859_1);
        for (int at = 0; at < bytes.length && at + 20 <= 600; at += 20) {
            int[] words = new int[5];
            for (int i = 0; i < 20; i++) {
                words[i / 4] = words[i / 4] << 8 | (at + i < bytes.length ? bytes[at + i] & 255 : random.nextInt(256));
            }
            call("append", words);
        }
        call("truncate", Math.min(600, bytes.length));
        call("load");
        call("errorCode");
        call("errorOffset");
    }

    private static final String[] NAMES = {"a", "b", "c", "red", "rose", "ann", "bert", "tank", "pay", "load", "abcd",
        "zzzz", "z", "abcde", "x", "y", "w", "pump", "sell"};

    private String name() {
        return NAMES[random.nextInt(NAMES.length)];
    }

    private String digits(int low, int high) {
        int number = high < low ? low : low + random.nextInt(high - low + 1);
        switch (random.nextInt(fault ? 6 : 12)) {
            case 0: number = fault ? low - 1 : low; break;
            case 1: number = fault ? high + 1 : high; break;
            default: break;
        }
        String zeros = random.nextInt(25) == 0 ? "00000000000000".substring(random.nextInt(14)) : "";
        return number < 0 ? "99999999999999999999" : zeros + number;
    }

    /** A text of statements that are good one after the other; one of them may be written to be wrong. */
    private String text() {
        List<String> varieties = new ArrayList<>();
        List<String> growers = new ArrayList<>();
        StringBuilder all = new StringBuilder();
        String gap = random.nextInt(6) == 0 ? "\n" : random.nextInt(6) == 0 ? "  " : "";
        fault = random.nextInt(10) == 0;
        all.append("cooperative ").append(digits(1, random.nextBoolean() ? 200 : 9)).append(' ')
                .append(digits(0, random.nextBoolean() ? 99999 : 700)).append(gap).append(';').append(gap);
        int[] counts = {classes(all), 0, 0, 0};
        all.append(';');
        int statements = random.nextInt(6) == 0 ? 3 : 60;
        int wrong = random.nextInt(3) == 0 ? random.nextInt(35) : statements;
        for (int i = 0; i < statements; i++) {
            fault = i == wrong;
            StringBuilder one = new StringBuilder();
            statement(one, varieties, growers, counts, i);
            one.append(gap).append(';').append(gap);
            if (all.length() + one.length() > 600) {
                break;
            }
            if (fault || new Model().takes(all.toString() + one)) {
                all.append(one);
            }
        }
        return all.toString();
    }

    private int classes(StringBuilder all) {
        all.append("classes");
        int count = fault && random.nextInt(3) == 0 ? 5 : 1 + random.nextInt(4);
        int sugar = fault && random.nextInt(4) == 0 ? 201 : random.nextBoolean() ? 200 : 100;
        for (int i = 0; i < count; i++) {
            all.append(' ').append(sugar);
            boolean same = fault && random.nextInt(6) == 0;
            sugar = same ? sugar : Math.max(0, sugar - 1 - random.nextInt(45));
        }
        return Math.min(count, 4);
    }

    private String known(List<String> names) {
        return names.isEmpty() || fault && random.nextInt(4) == 0 ? name() : names.get(random.nextInt(names.size()));
    }

    /** The counts are those of the classes, plots, tanks and lots, as far as the text is good. */
    private void statement(StringBuilder one, List<String> varieties, List<String> growers, int[] counts, int at) {
        int kind = at < 12 && random.nextInt(3) > 0 ? random.nextInt(5) : random.nextInt(12);
        if (kind == 0 && (varieties.size() < 4 || fault)) {
            varieties.add(fresh(varieties, growers));
            one.append("variety ").append(varieties.get(varieties.size() - 1));
        } else if (kind == 1 && (growers.size() < 6 || fault)) {
            growers.add(fresh(varieties, growers));
            one.append("grower ").append(growers.get(growers.size() - 1));
        } else if (kind == 2 && (counts[1] < 8 || fault) && !growers.isEmpty() && !varieties.isEmpty()) {
            one.append("plot ").append(known(growers)).append(' ').append(known(varieties)).append(' ')
                    .append(digits(1, random.nextBoolean() ? 99 : 9));
            counts[1]++;
        } else if (kind == 3 && (counts[2] < 5 || fault)) {
            int[] most = {20000, 2000, 300, 60};
            one.append("tank ").append(digits(1, most[random.nextInt(4)]));
            counts[2]++;
        } else if (kind == 4 && !varieties.isEmpty()) {
            one.append("price ").append(known(varieties)).append(' ').append(digits(0, counts[0] - 1)).append(' ')
                    .append(digits(0, random.nextBoolean() ? 999 : 9));
        } else if (counts[1] > 0 && counts[2] > 0) {
            later(one, growers, counts, kind);
        } else if (varieties.isEmpty()) {
            varieties.add(fresh(varieties, growers));
            one.append("variety ").append(varieties.get(0));
        } else {
            one.append("price ").append(known(varieties)).append(" 0 5");
        }
    }

    private void later(StringBuilder one, List<String> growers, int[] counts, int kind) {
        if (kind == 8) {
            one.append("bottle ").append(digits(0, counts[2] - 1)).append(' ').append(digits(1, 8));
            counts[3]++;
        } else if (kind == 9 && counts[3] > 0) {
            one.append("sell ").append(digits(0, counts[3] - 1)).append(' ').append(digits(1, 3)).append(' ')
                    .append(digits(1, 9999));
        } else if (kind == 10) {
            one.append("pay ").append(known(growers));
        } else if (kind == 11 && counts[2] > 1) {
            int from = random.nextInt(counts[2]);
            int to = random.nextInt(counts[2]);
            one.append("pump ").append(from).append(' ').append(fault && to != from ? digits(0, counts[2] - 1) : to);
        } else {
            one.append("load ").append(digits(0, counts[1] - 1)).append(' ').append(digits(1, 30)).append(' ')
                    .append(digits(random.nextInt(20) == 0 ? 0 : 90, 250));
        }
    }

    private String fresh(List<String> varieties, List<String> growers) {
        String name = name();
        for (int i = 0; i < 30 && !fault
                && (name.length() > 4 || varieties.contains(name) || growers.contains(name)); i++) {
            name = name();
        }
        return name;
    }

    /** One or two places of the text are changed. */
    private String disturbed(String text) {
        String[] pieces = {";", " ", "", "0", "9", "99999", "a", "abcde", "variety ", "tank ", "classes ", "cooperative ",
            "load ", "A", "\n", "\t", "\0", "\u00e9", "{", "`", "/", ":", "-", "variety q;", "pump 0 0;", "pay ann;"};
        StringBuilder all = new StringBuilder(text);
        for (int i = random.nextInt(2); i >= 0 && all.length() > 0; i--) {
            int at = random.nextInt(all.length());
            int end = Math.min(all.length(), at + random.nextInt(3));
            all.replace(at, end, pieces[random.nextInt(pieces.length)]);
            if (random.nextInt(6) == 0) {
                all.setLength(random.nextInt(all.length() + 1));
            }
        }
        return all.toString();
    }
}
