import java.util.ArrayList;
import java.util.HashMap;
import java.util.List;
import java.util.Map;

/**
 * Long runs of calls with arguments from a fixed row of numbers. Each answer is compared with other
 * answers of the same object that must agree with it. The questions that are asked in between go past
 * the 512 calls of the document, where its answers are free: this class goes on as before.
 */
final class RandomRunTests {
    private static final int RUNS = 400;
    private static final int CALLS = 60;
    private static final String[] SETUPS = {
        "cooperative 30 5000;classes 90 75 60;variety red;variety rose;price red 0 12;price red 1 9;"
            + "price rose 0 10;grower ann;grower bert;plot ann red 20;plot bert red 10;plot bert rose 8;"
            + "tank 700;tank 500;tank 300;load 0 400 92;load 1 280 78;",
        "cooperative 200 99999;classes 200 100 50 0;variety a;variety b;variety c;variety d;"
            + "grower g;grower h;grower i;grower j;grower k;grower l;plot g a 99;plot h b 50;plot i c 20;"
            + "plot j d 1;plot g b 5;plot l a 7;plot l d 80;plot k c 3;price a 0 999;price a 3 1;price b 1 7;"
            + "price d 2 40;tank 20000;tank 9000;tank 4000;tank 700;tank 1;",
        "cooperative 1 0;classes 60;variety v;grower g;plot g v 1;tank 10;tank 20;load 0 5 80;bottle 0 2;sell 0 1 9;",
        "cooperative 9 9;classes 7;",
        "cooperative 5 50;classes 40 20;variety v;variety w;grower g;grower h;plot g v 9;plot h w 9;"
            + "price v 0 1;price w 0 2;price v 1 1;tank 100;tank 60;tank 60;load 0 40 40;load 1 40 30;pay g;"
    };

    private long seed;
    private WineCooperative x;
    private final List<String> before = new ArrayList<>();
    private final Map<Integer, String> saved = new HashMap<>();

    private RandomRunTests(long seed) {
        this.seed = seed;
    }

    public static void main(String[] args) {
        for (int run = 0; run < RUNS; run++) {
            Check.part("run " + run);
            new RandomRunTests(run).run();
        }
        Check.finish("RandomRunTests");
    }

    private int upTo(int bound) {
        seed = seed * 6364136223846793005L + 1442695040888963407L;
        return (int) Math.floorMod(seed >>> 33, (long) bound);
    }

    /** Mostly a number from low to high, at times one just outside or far away. */
    private int around(int low, int high) {
        switch (upTo(25)) {
            case 0: return low - 1;
            case 1: return high + 1;
            case 2: return low;
            case 3: return high;
            case 4: return upTo(2) == 0 ? Integer.MIN_VALUE : Integer.MAX_VALUE;
            default: return high < low ? low : low + upTo(high - low + 1);
        }
    }

    private void run() {
        x = new WineCooperative();
        for (int call = 0; call < CALLS; call++) {
            step();
            invariants();
        }
    }

    private void step() {
        switch (upTo(12)) {
            case 0: load(); break;
            case 1: case 2: case 3: deliver(); break;
            case 4: change("setPrice", () -> x.setPrice(around(0, 1), around(0, 1), around(0, 999))); break;
            case 5: bottle(); break;
            case 6: sell(); break;
            case 7: payLoad(); break;
            case 8: payGrower(); break;
            case 9: pump(); break;
            case 10: slots(); break;
            default: undo(); break;
        }
    }

    /** A call that throws changes nothing, any other one can be undone. */
    private boolean change(String what, Runnable call) {
        String state = Fingerprint.of(x);
        try {
            call.run();
        } catch (RuntimeException e) {
            Class<?> kind = e.getClass();
            Check.holds(what + " throws " + kind, kind == IndexOutOfBoundsException.class
                    || kind == IllegalArgumentException.class || kind == IllegalStateException.class);
            Check.same(what + " that throws changes nothing", Fingerprint.of(x), state);
            return false;
        }
        before.add(state);
        if (before.size() > 6) {
            before.remove(0);
        }
        return true;
    }

    private void load() {
        String text = SETUPS[upTo(SETUPS.length)];
        if (upTo(3) == 0) {
            int at = upTo(text.length());
            text = text.substring(0, at) + ";0 a9".charAt(upTo(5)) + text.substring(at + 1);
        }
        String used = text;
        String state = Fingerprint.of(x);
        Check.feed(x, used);
        if (x.load() == WineCooperative.PARSE_ERROR) {
            Check.same("a failed load changes nothing", Fingerprint.of(x), state);
            Check.holds("errorCode()", x.errorCode() >= 1 && x.errorCode() <= 6);
            Check.holds("errorOffset()", x.errorOffset() >= 0 && x.errorOffset() <= used.length());
            return;
        }
        change("load", () -> { });
        before.set(before.size() - 1, state);
        Check.same("load on a used object is as on a new one", Fingerprint.of(x),
                Fingerprint.of(Check.loaded(used)));
    }

    private void deliver() {
        int plot = around(0, x.plotCount() - 1);
        int weight = upTo(2) == 0 ? around(1, 5000) : around(1, 60);
        int sugar = around(0, 250);
        int loads = x.loadCount();
        int[] foreseen = {-2, -2, 0, 0};
        try {
            foreseen[0] = x.refusal(plot, weight, sugar);
            foreseen[1] = x.valueIfDelivered(plot, weight, sugar);
            foreseen[2] = x.yieldLeft(plot);
            foreseen[3] = x.harvested(plot);
        } catch (IndexOutOfBoundsException | IllegalArgumentException e) {
            foreseen[0] = -2;
        }
        boolean done = change("deliver", () -> x.deliver(plot, weight, sugar));
        Check.same("deliver is as refusal told", done, foreseen[0] == 0);
        if (done) {
            Check.same("value as foreseen", x.valueOf(loads), foreseen[1]);
            Check.same("harvested", x.harvested(plot), foreseen[3] + weight);
            Check.same("plotOfLoad", x.plotOfLoad(loads), plot);
            Check.same("loadCount", x.loadCount(), loads + 1);
            Check.holds("class above the yield", weight <= foreseen[2]
                    || x.classOfLoad(loads) == x.classCount() - 1);
            Check.holds("class within the yield", weight > foreseen[2]
                    || x.classOfLoad(loads) == x.classBySugar(sugar));
        }
    }

    private void bottle() {
        int tank = around(0, 4);
        int bottles = upTo(2) == 0 ? around(1, 20000) : around(1, 50);
        int lots = x.lotCount();
        String mean = meanAndVariety(tank);
        if (change("bottle", () -> x.bottle(tank, bottles))) {
            Check.same("lotCount", x.lotCount(), lots + 1);
            Check.same("lot", x.lotSugar(lots) + " " + x.lotVariety(lots), mean);
            Check.same("unsold", x.unsold(lots), bottles);
        }
    }

    private String meanAndVariety(int tank) {
        try {
            return x.meanSugar(tank) + " " + x.varietyIn(tank);
        } catch (IndexOutOfBoundsException e) {
            return "none";
        }
    }

    private void sell() {
        int lot = around(0, x.lotCount() - 1);
        int bottles = around(1, 30);
        int cents = around(1, 9999);
        int cash = x.cash();
        if (change("sell", () -> x.sell(lot, bottles, cents))) {
            Check.same("cash", x.cash(), cash + bottles * cents);
        }
    }

    private void payLoad() {
        int load = around(0, x.loadCount() - 1);
        int cash = x.cash();
        if (change("payLoad", () -> x.payLoad(load))) {
            Check.same("cash", x.cash(), cash - x.valueOf(load));
            Check.holds("isPaid", x.isPaid(load));
        }
    }

    private void payGrower() {
        int grower = around(0, x.growerCount() - 1);
        int cash = x.cash();
        int all = x.owedToAll();
        if (change("payGrower", () -> x.payGrower(grower))) {
            Check.same("owed", x.owed(grower), 0);
            Check.same("owedToAll", x.owedToAll() - all, x.cash() - cash);
        }
    }

    private void pump() {
        int from = around(0, 4);
        int to = around(0, 4);
        int[] content = new int[1];
        if (change("pump", () -> content[0] = x.pump(from, to))) {
            Check.same("content of the one", x.content(from), 0);
            Check.same("content of the other", x.content(to), content[0]);
        }
    }

    private void slots() {
        int slot = around(0, 1);
        if (upTo(2) == 0 && (slot == 0 || slot == 1)) {
            Check.same("save", x.save(slot), x.cash());
            saved.put(slot, Fingerprint.of(x));
        } else if (change("restore", () -> x.restore(slot))) {
            Check.same("restored", Fingerprint.of(x), saved.get(slot));
        }
    }

    private void undo() {
        if (before.isEmpty()) {
            Check.state("undo", x::undo);
            return;
        }
        String state = before.remove(before.size() - 1);
        Check.same("undo", x.undo(), before.size());
        Check.same("undone", Fingerprint.of(x), state);
    }

    private void invariants() {
        Check.same("bottleDifference", x.bottleDifference(), 0);
        Check.same("cashDifference", x.cashDifference(), 0);
        Check.same("missingCash", x.missingCash(), Math.max(0, x.owedToAll() - x.cash()));
        growersAgree();
        pairsAgree();
        roomAgrees();
        Check.same("payableGrowers", x.payableGrowers(), paidOneAfterTheOther());
    }

    private void growersAgree() {
        int owed = 0;
        int paid = 0;
        int weight = 0;
        for (int grower = 0; grower < x.growerCount(); grower++) {
            owed += x.owed(grower);
            paid += x.paidTo(grower);
            weight += x.weightOf(grower);
        }
        int unpaidLoads = 0;
        int paidLoads = 0;
        for (int load = 0; load < x.loadCount(); load++) {
            if (x.isPaid(load)) {
                paidLoads += x.valueOf(load);
            } else {
                unpaidLoads += x.valueOf(load);
            }
        }
        int harvested = 0;
        for (int plot = 0; plot < x.plotCount(); plot++) {
            harvested += x.harvested(plot);
        }
        Check.same("owed", owed, unpaidLoads);
        Check.same("owedToAll", x.owedToAll(), unpaidLoads);
        Check.same("paid", paid, paidLoads);
        Check.same("weights", weight, harvested);
    }

    private void pairsAgree() {
        int pairs = 0;
        int greatest = 0;
        for (int variety = 0; variety < x.varietyCount(); variety++) {
            for (int grade = 0; grade < x.classCount(); grade++) {
                int weight = x.weightOfClass(variety, grade);
                pairs += weight > 0 ? 1 : 0;
                greatest = Math.max(greatest, weight);
            }
        }
        Check.same("deliveredClasses", x.deliveredClasses(), pairs);
        for (int rank = 0; rank < pairs; rank++) {
            int pair = x.classInOrder(rank);
            if (x.weightOfClass(pair / 10, pair % 10) == greatest) {
                Check.same("greatestClass", x.greatestClass(), pair);
                return;
            }
        }
        Check.same("greatestClass", x.greatestClass(), -1);
    }

    private void roomAgrees() {
        for (int variety = 0; variety < x.varietyCount(); variety++) {
            int most = x.greatestLoad(variety);
            if (most > 0) {
                Check.holds("tankFor the greatest load", x.tankFor(variety, most) >= 0);
            }
            if (most < 5000) {
                Check.same("tankFor more", x.tankFor(variety, most + 1), -1);
            }
        }
    }

    /** What payGrower would do, told from the sums that are owed. */
    private int paidOneAfterTheOther() {
        int cash = x.cash();
        int payable = 0;
        for (int grower = 0; grower < x.growerCount(); grower++) {
            int owed = x.owed(grower);
            if (owed > cash) {
                return payable;
            }
            cash -= owed;
            payable += owed > 0 ? 1 : 0;
        }
        return payable;
    }
}
