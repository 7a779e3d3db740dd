import java.util.function.IntSupplier;
import java.util.function.Supplier;

/** All that the questions of the face answer, but for the input buffer, the error and the output. */
final class Fingerprint {
    private static final int[] WEIGHTS = {1, 20, 21, 90, 300, 5000};
    private static final int[] SUGARS = {0, 55, 60, 75, 90, 250};

    private Fingerprint() {
    }

    static String of(WineCooperative x) {
        StringBuilder all = new StringBuilder();
        counts(x, all);
        for (int sugar : SUGARS) {
            put(all, "class", () -> x.classBySugar(sugar));
        }
        varieties(x, all);
        growers(x, all);
        plots(x, all);
        loads(x, all);
        tanks(x, all);
        lots(x, all);
        return all.toString();
    }

    private static void counts(WineCooperative x, StringBuilder all) {
        put(all, "counts", () -> x.varietyCount() + " " + x.classCount() + " " + x.growerCount() + " "
                + x.plotCount() + " " + x.loadCount() + " " + x.lotCount());
        put(all, "classes", () -> x.deliveredClasses() + " " + x.greatestClass());
        for (int i = 0; i < x.deliveredClasses(); i++) {
            int rank = i;
            put(all, "order", () -> x.classInOrder(rank));
        }
        put(all, "money", () -> x.cash() + " " + x.missingCash() + " " + x.owedToAll() + " "
                + x.payableGrowers() + " " + x.greatestGrower() + " " + x.sweetestLot());
        put(all, "differences", () -> x.bottleDifference() + " " + x.cashDifference());
        put(all, "reals", () -> x.fullness() + " " + x.averageSugar());
    }

    private static void varieties(WineCooperative x, StringBuilder all) {
        for (int i = 0; i < x.varietyCount(); i++) {
            int variety = i;
            put(all, "variety", () -> x.greatestLoad(variety) + " " + x.bottlesOf(variety));
            for (int weight : WEIGHTS) {
                put(all, "tankFor", () -> x.tankFor(variety, weight));
            }
            for (int j = 0; j < x.classCount(); j++) {
                int grade = j;
                put(all, "grade", () -> x.price(variety, grade) + " " + x.weightOfClass(variety, grade));
            }
        }
    }

    private static void growers(WineCooperative x, StringBuilder all) {
        for (int i = 0; i < x.growerCount(); i++) {
            int g = i;
            put(all, "grower", () -> x.plotsOf(g) + " " + x.weightOf(g) + " " + x.owed(g) + " "
                    + x.paidTo(g) + " " + x.varietiesOf(g));
        }
    }

    private static void plots(WineCooperative x, StringBuilder all) {
        for (int i = 0; i < x.plotCount(); i++) {
            int p = i;
            put(all, "plot", () -> x.yieldLimit(p) + " " + x.harvested(p) + " " + x.yieldLeft(p));
            for (int weight : WEIGHTS) {
                put(all, "would", () -> x.refusal(p, weight, 90) + " " + x.valueIfDelivered(p, weight, 90));
            }
        }
    }

    private static void loads(WineCooperative x, StringBuilder all) {
        for (int i = 0; i < x.loadCount(); i++) {
            int n = i;
            put(all, "load", () -> x.plotOfLoad(n) + " " + x.classOfLoad(n) + " " + x.tankOfLoad(n) + " "
                    + x.valueOf(n) + " " + x.isPaid(n) + " " + x.isLowered(n));
        }
    }

    private static void tanks(WineCooperative x, StringBuilder all) {
        for (int i = 0; i < 5; i++) {
            int t = i;
            put(all, "tank", () -> x.content(t) + " " + x.varietyIn(t) + " " + x.meanSugar(t));
        }
    }

    private static void lots(WineCooperative x, StringBuilder all) {
        for (int i = 0; i < x.lotCount(); i++) {
            int n = i;
            put(all, "lot", () -> x.lotVariety(n) + " " + x.lotSugar(n) + " " + x.unsold(n));
        }
    }

    private static void put(StringBuilder all, String what, IntSupplier number) {
        put(all, what, () -> Integer.toString(number.getAsInt()));
    }

    private static void put(StringBuilder all, String what, Supplier<String> text) {
        String answer;
        try {
            answer = text.get();
        } catch (RuntimeException e) {
            answer = e.getClass().getName();
        }
        all.append(what).append(' ').append(answer).append('\n');
    }
}
