import java.util.function.Consumer;

/** At least one test for each promise of the document, in its order: usual answers, edges, wrong inputs. */
final class PromiseTests {
    private static final String BASE = Samples.BASE;
    private static final String TWENTY = repeat("load 1 1 80;", 20);
    private static final int MIN = Integer.MIN_VALUE;
    private static final int MAX = Integer.MAX_VALUE;

    private PromiseTests() {
    }

    public static void main(String[] args) {
        newObject();
        buffer();
        loading();
        counts();
        classesAndPrices();
        deliveredPairs();
        growers();
        greatestGrower();
        plots();
        loads();
        tanks();
        roomInTanks();
        refusals();
        lots();
        money();
        checksAndReals();
        deliver();
        setPrice();
        bottle();
        sell();
        payLoad();
        payGrower();
        pump();
        saveAndRestore();
        undo();
        undoForgetsAllButTheLatestSix();
        undoOfEachChange();
        printing();
        orderOfExceptions();
        Check.finish("PromiseTests");
    }

    private static String repeat(String text, int times) {
        return Samples.times(times, text);
    }

    private static WineCooperative with(String more) {
        return Check.loaded(BASE + more);
    }

    private static void newObject() {
        Check.part("promise 1");
        WineCooperative x = new WineCooperative();
        WineCooperative same = Check.loaded("cooperative 30 5000;classes 90 75 60;variety red;variety rose;"
                + "price red 0 12;price red 1 9;price red 2 5;price rose 0 10;price rose 1 8;"
                + "grower ann;grower bert;plot ann red 20;plot bert red 10;plot bert rose 8;"
                + "tank 700;tank 500;tank 300;load 0 400 92;load 1 280 78;load 2 200 76;load 1 90 95;");
        Check.same("the state", Fingerprint.of(x), Fingerprint.of(same));
        Check.same("cash()", x.cash(), 5000);
        Check.same("loadCount()", x.loadCount(), 4);
        Check.same("errorCode()", x.errorCode(), 0);
        Check.same("errorOffset()", x.errorOffset(), -1);
        Check.argument("truncate(1)", () -> x.truncate(1));
        Check.same("truncate(0)", x.truncate(0), 0);
        Check.element("outputByte(0)", () -> x.outputByte(0));
        Check.state("restore(0)", () -> x.restore(0));
        Check.state("restore(1)", () -> x.restore(1));
        Check.state("undo()", x::undo);
        Check.same("the tanks", Check.output(x), "680:red 200:rose 90:red");
    }

    private static void buffer() {
        Check.part("promises 2 and 3");
        WineCooperative x = new WineCooperative();
        for (int i = 1; i <= 30; i++) {
            Check.same("append", x.append(0x20202020, 0x20202020, 0x20202020, 0x20202020, 0x20202020), 20 * i);
        }
        Check.state("append to 600", () -> x.append(0, 0, 0, 0, 0));
        Check.argument("truncate(601)", () -> x.truncate(601));
        Check.argument("truncate(-1)", () -> x.truncate(-1));
        Check.argument("truncate(MIN)", () -> x.truncate(MIN));
        Check.argument("truncate(MAX)", () -> x.truncate(MAX));
        Check.same("truncate(600)", x.truncate(600), 600);
        Check.same("truncate(581)", x.truncate(581), 581);
        Check.state("append to 581", () -> x.append(0, 0, 0, 0, 0));
        Check.argument("truncate(582)", () -> x.truncate(582));
        Check.same("truncate(580)", x.truncate(580), 580);
        Check.same("append to 580", x.append(0, 0, 0, 0, 0), 600);
        Check.same("truncate(0)", x.truncate(0), 0);
        Check.same("append to 0", x.append(0x20202020, 0x20202020, 0x202020ff, 0, 0), 20);
        Check.same("load()", x.load(), WineCooperative.PARSE_ERROR);
        Check.same("errorOffset()", x.errorOffset(), 11);
        Check.same("append after load", x.append(0, 0, 0, 0, 0), 20);
    }

    private static void loading() {
        Check.part("promises 4 to 6");
        Check.same("PARSE_ERROR", WineCooperative.PARSE_ERROR, -7);
        WineCooperative x = new WineCooperative();
        x.save(1);
        int length = x.printTanks();
        Check.same("load of two loads", Check.load(x, BASE + "load 0 1 80;load 1 1 80;"), 2);
        Check.argument("truncate(1) after load", () -> x.truncate(1));
        Check.same("the output is kept", x.outputByte(length - 1), (int) 'd');
        Check.same("load with an error", Check.load(x, BASE + "load 0 1 80;x"), -7);
        Check.same("errorCode()", x.errorCode(), 1);
        Check.same("errorOffset()", x.errorOffset(), BASE.length() + 12);
        Check.argument("truncate(1) after an error", () -> x.truncate(1));
        Check.same("loadCount()", x.loadCount(), 2);
        Check.same("load of no loads", Check.load(x, BASE), 0);
        Check.same("errorCode()", x.errorCode(), 0);
        Check.same("errorOffset()", x.errorOffset(), -1);
        Check.same("the saved state is kept", x.restore(1), 5000);
        Check.same("undo of restore", x.undo(), 2);
        Check.same("loadCount()", x.loadCount(), 0);
        Check.same("undo of the second load", x.undo(), 1);
        Check.same("loadCount()", x.loadCount(), 2);
        Check.same("undo of the first load", x.undo(), 0);
        Check.same("the first state", Fingerprint.of(x), Fingerprint.of(new WineCooperative()));
    }

    private static void counts() {
        Check.part("promises 7 to 12");
        WineCooperative x = with("load 0 5 80;load 0 5 80;load 1 5 80;load 2 5 80;bottle 0 1;bottle 0 1;"
                + "tank 9;plot cleo rose 1;variety pink;");
        Check.same("varietyCount()", x.varietyCount(), 3);
        Check.same("classCount()", x.classCount(), 2);
        Check.same("growerCount()", x.growerCount(), 3);
        Check.same("plotCount()", x.plotCount(), 4);
        Check.same("loadCount()", x.loadCount(), 4);
        Check.same("lotCount()", x.lotCount(), 2);
        WineCooperative none = Check.loaded("cooperative 1 1;classes 1;");
        Check.same("varietyCount()", none.varietyCount(), 0);
        Check.same("classCount()", none.classCount(), 1);
        Check.same("growerCount()", none.growerCount(), 0);
        Check.same("plotCount()", none.plotCount(), 0);
        Check.same("loadCount()", none.loadCount(), 0);
        Check.same("lotCount()", none.lotCount(), 0);
    }

    private static void classesAndPrices() {
        Check.part("promises 13 to 15");
        WineCooperative x = with("load 0 100 80;load 0 1 90;load 2 7 79;load 1 4 50;");
        Check.same("classBySugar(250)", x.classBySugar(250), 0);
        Check.same("classBySugar(80)", x.classBySugar(80), 0);
        Check.same("classBySugar(79)", x.classBySugar(79), 1);
        Check.same("classBySugar(50)", x.classBySugar(50), 1);
        Check.same("classBySugar(49)", x.classBySugar(49), -1);
        Check.same("classBySugar(0)", x.classBySugar(0), -1);
        Check.argument("classBySugar(-1)", () -> x.classBySugar(-1));
        Check.argument("classBySugar(251)", () -> x.classBySugar(251));
        Check.same("classBySugar(0) of lowest 0", Check.loaded("cooperative 1 1;classes 9 0;").classBySugar(0), 1);
        Check.same("price(0, 0)", x.price(0, 0), 3);
        Check.same("price(0, 1)", x.price(0, 1), 2);
        Check.same("price(1, 0)", x.price(1, 0), 5);
        Check.same("price(1, 1)", x.price(1, 1), 0);
        Check.same("weightOfClass(0, 0)", x.weightOfClass(0, 0), 100);
        Check.same("weightOfClass(0, 1)", x.weightOfClass(0, 1), 8);
        Check.same("weightOfClass(1, 1)", x.weightOfClass(1, 1), 4);
        Check.same("weightOfClass(1, 0)", x.weightOfClass(1, 0), 0);
        for (int wrong : new int[] {-1, 2, 3, 4, MIN, MAX}) {
            Check.index("price(wrong, 0)", () -> x.price(wrong, 0));
            Check.index("price(0, wrong)", () -> x.price(0, wrong));
            Check.index("weightOfClass(wrong, 0)", () -> x.weightOfClass(wrong, 0));
            Check.index("weightOfClass(0, wrong)", () -> x.weightOfClass(0, wrong));
        }
    }

    private static void deliveredPairs() {
        Check.part("promises 16 to 18");
        WineCooperative x = with("load 1 4 50;load 0 4 80;load 1 3 60;load 2 3 80;load 1 1 99;");
        Check.same("deliveredClasses()", x.deliveredClasses(), 3);
        Check.same("classInOrder(0)", x.classInOrder(0), 11);
        Check.same("classInOrder(1)", x.classInOrder(1), 0);
        Check.same("classInOrder(2)", x.classInOrder(2), 10);
        for (int wrong : new int[] {-1, 3, MIN, MAX}) {
            Check.element("classInOrder(wrong)", () -> x.classInOrder(wrong));
        }
        Check.same("greatestClass() among two", x.greatestClass(), 11);
        x.deliver(0, 1, 80);
        Check.same("greatestClass()", x.greatestClass(), 0);
        WineCooperative none = with("");
        Check.same("deliveredClasses()", none.deliveredClasses(), 0);
        Check.same("greatestClass()", none.greatestClass(), -1);
        Check.element("classInOrder(0)", () -> none.classInOrder(0));
    }

    private static void growers() {
        Check.part("promises 19 to 23");
        WineCooperative x = with("load 0 10 80;load 1 20 80;load 2 30 80;load 1 5 60;pay ann;load 0 7 60;");
        Check.same("plotsOf(0)", x.plotsOf(0), 1);
        Check.same("plotsOf(1)", x.plotsOf(1), 2);
        Check.same("plotsOf(2)", x.plotsOf(2), 0);
        Check.same("weightOf(0)", x.weightOf(0), 17);
        Check.same("weightOf(1)", x.weightOf(1), 55);
        Check.same("weightOf(2)", x.weightOf(2), 0);
        Check.same("owed(0)", x.owed(0), 14);
        Check.same("owed(1)", x.owed(1), 100 + 90);
        Check.same("owed(2)", x.owed(2), 0);
        Check.same("paidTo(0)", x.paidTo(0), 30);
        Check.same("paidTo(1)", x.paidTo(1), 0);
        Check.same("varietiesOf(0)", x.varietiesOf(0), 1);
        Check.same("varietiesOf(1)", x.varietiesOf(1), 2);
        Check.same("varietiesOf(2)", x.varietiesOf(2), 0);
        x.payLoad(1);
        x.setPrice(0, 0, 9);
        Check.same("owed(1) after a payment and a new price", x.owed(1), 270);
        Check.same("paidTo(1) after it", x.paidTo(1), 100);
        Check.same("paidTo(0) after it", x.paidTo(0), 30);
        WineCooperative more = with("variety pink;plot cleo pink 9;load 1 1 80;load 3 1 80;");
        Check.same("varietiesOf(0) of three", more.varietiesOf(0), 0);
        Check.same("varietiesOf(1) of three", more.varietiesOf(1), 1);
        Check.same("varietiesOf(2) of three", more.varietiesOf(2), 1);
        for (int wrong : new int[] {-1, 3, 6, MIN, MAX}) {
            Check.index("plotsOf(wrong)", () -> x.plotsOf(wrong));
            Check.index("weightOf(wrong)", () -> x.weightOf(wrong));
            Check.index("owed(wrong)", () -> x.owed(wrong));
            Check.index("paidTo(wrong)", () -> x.paidTo(wrong));
            Check.index("varietiesOf(wrong)", () -> x.varietiesOf(wrong));
        }
    }

    private static void greatestGrower() {
        Check.part("promise 24");
        Check.same("no growers", Check.loaded("cooperative 1 1;classes 1;").greatestGrower(), -1);
        Check.same("no loads", with("").greatestGrower(), 0);
        Check.same("as much", with("load 1 9 80;load 0 9 80;").greatestGrower(), 0);
        Check.same("more", with("load 0 9 80;load 1 9 80;load 2 1 80;").greatestGrower(), 1);
    }

    private static void plots() {
        Check.part("promises 25 to 28");
        WineCooperative x = with("load 0 60 80;load 2 50 80;load 1 9 80;load 0 39 80;");
        Check.same("yieldLimit(0)", x.yieldLimit(0), 100);
        Check.same("yieldLimit(1)", x.yieldLimit(1), 200);
        Check.same("yieldLimit(2)", x.yieldLimit(2), 50);
        Check.same("harvested(0)", x.harvested(0), 99);
        Check.same("harvested(1)", x.harvested(1), 9);
        Check.same("yieldLeft(0)", x.yieldLeft(0), 1);
        Check.same("yieldLeft(1)", x.yieldLeft(1), 191);
        Check.same("yieldLeft(2)", x.yieldLeft(2), 0);
        x.deliver(2, 1, 80);
        Check.same("yieldLeft(2) below the limit", x.yieldLeft(2), 0);
        Check.same("plotOfLoad(1)", x.plotOfLoad(1), 2);
        Check.same("plotOfLoad(4)", x.plotOfLoad(4), 2);
        for (int wrong : new int[] {-1, 3, 8, MIN, MAX}) {
            Check.index("yieldLimit(wrong)", () -> x.yieldLimit(wrong));
            Check.index("harvested(wrong)", () -> x.harvested(wrong));
            Check.index("yieldLeft(wrong)", () -> x.yieldLeft(wrong));
        }
        WineCooperative wide = Check.loaded("cooperative 200 0;classes 0;variety v;grower g;plot g v 99;plot g v 25;"
                + "plot g v 26;tank 20000;load 0 5000 1;load 0 5000 1;");
        Check.same("yieldLimit(0)", wide.yieldLimit(0), 19800);
        Check.same("yieldLeft(0): no load has more than 5000", wide.yieldLeft(0), 5000);
        Check.same("yieldLeft(1)", wide.yieldLeft(1), 5000);
        Check.same("yieldLeft(2)", wide.yieldLeft(2), 5000);
        wide.deliver(0, 4801, 1);
        Check.same("yieldLeft(0)", wide.yieldLeft(0), 4999);
    }

    private static void loads() {
        Check.part("promises 28 to 33");
        WineCooperative x = with("load 2 40 80;load 2 10 80;load 2 1 80;load 2 1 50;load 1 10 79;");
        Check.same("classOfLoad(1) at the limit", x.classOfLoad(1), 0);
        Check.same("isLowered(1)", x.isLowered(1), false);
        Check.same("classOfLoad(2) above the limit", x.classOfLoad(2), 1);
        Check.same("isLowered(2)", x.isLowered(2), true);
        Check.same("classOfLoad(3) of the last class", x.classOfLoad(3), 1);
        Check.same("isLowered(3)", x.isLowered(3), false);
        Check.same("tankOfLoad(0)", x.tankOfLoad(0), 0);
        Check.same("tankOfLoad(4)", x.tankOfLoad(4), 1);
        x.pump(1, 2);
        Check.same("tankOfLoad(4) after pump", x.tankOfLoad(4), 1);
        Check.same("valueOf(0)", x.valueOf(0), 120);
        Check.same("valueOf(2)", x.valueOf(2), 2);
        x.setPrice(0, 0, 4);
        Check.same("valueOf(0) at a new price", x.valueOf(0), 160);
        Check.same("isPaid(0)", x.isPaid(0), false);
        Check.same("payLoad(0)", x.payLoad(0), 160);
        Check.same("isPaid(0)", x.isPaid(0), true);
        Check.same("isPaid(1)", x.isPaid(1), false);
        x.setPrice(0, 0, 0);
        Check.same("valueOf(0) when paid", x.valueOf(0), 160);
        Check.same("valueOf(1) when not", x.valueOf(1), 0);
        for (int wrong : new int[] {-1, 5, 20, MIN, MAX}) {
            Check.index("plotOfLoad(wrong)", () -> x.plotOfLoad(wrong));
            Check.index("classOfLoad(wrong)", () -> x.classOfLoad(wrong));
            Check.index("tankOfLoad(wrong)", () -> x.tankOfLoad(wrong));
            Check.index("valueOf(wrong)", () -> x.valueOf(wrong));
            Check.index("isPaid(wrong)", () -> x.isPaid(wrong));
            Check.index("isLowered(wrong)", () -> x.isLowered(wrong));
        }
        WineCooperative full = with(TWENTY);
        Check.same("plotOfLoad(19)", full.plotOfLoad(19), 1);
        Check.index("plotOfLoad(20)", () -> full.plotOfLoad(20));
    }

    private static void tanks() {
        Check.part("promises 34 to 36");
        WineCooperative x = with("load 0 2 80;load 0 1 85;load 1 4 61;");
        Check.same("content(0)", x.content(0), 3);
        Check.same("content(1)", x.content(1), 4);
        Check.same("content(2)", x.content(2), 0);
        Check.same("varietyIn(0)", x.varietyIn(0), 0);
        Check.same("varietyIn(1)", x.varietyIn(1), 1);
        Check.same("varietyIn(2)", x.varietyIn(2), -1);
        Check.same("meanSugar(0): 245 by 3", x.meanSugar(0), 81);
        Check.same("meanSugar(1)", x.meanSugar(1), 61);
        Check.same("meanSugar(2)", x.meanSugar(2), 0);
        x.bottle(0, 2);
        Check.same("meanSugar(0): 245 less 162", x.meanSugar(0), 83);
        x.bottle(0, 1);
        Check.same("varietyIn(0) when empty again", x.varietyIn(0), -1);
        Check.same("meanSugar(0) when empty again", x.meanSugar(0), 0);
        for (int wrong : new int[] {-1, 3, 5, MIN, MAX}) {
            Check.index("content(wrong)", () -> x.content(wrong));
            Check.index("varietyIn(wrong)", () -> x.varietyIn(wrong));
            Check.index("meanSugar(wrong)", () -> x.meanSugar(wrong));
        }
    }

    private static void roomInTanks() {
        Check.part("promises 37 and 38");
        WineCooperative x = with("load 0 90 80;load 0 90 80;bottle 0 60;");
        Check.same("the tanks", Check.output(x), "30:red 90:red 0");
        Check.same("tankFor(0, 1)", x.tankFor(0, 1), 0);
        Check.same("tankFor(0, 70)", x.tankFor(0, 70), 0);
        Check.same("tankFor(0, 71)", x.tankFor(0, 71), 1);
        Check.same("tankFor(0, 210)", x.tankFor(0, 210), 1);
        Check.same("tankFor(0, 211)", x.tankFor(0, 211), -1);
        Check.same("greatestLoad(0)", x.greatestLoad(0), 210);
        Check.same("tankFor(1, 200)", x.tankFor(1, 200), 2);
        Check.same("tankFor(1, 201)", x.tankFor(1, 201), -1);
        Check.same("greatestLoad(1)", x.greatestLoad(1), 200);
        x.pump(0, 1);
        Check.same("tankFor(0, 1): the same variety before an empty tank", x.tankFor(0, 1), 1);
        Check.same("tankFor(0, 181)", x.tankFor(0, 181), 2);
        Check.same("tankFor(1, 100)", x.tankFor(1, 100), 0);
        Check.same("greatestLoad(0)", x.greatestLoad(0), 200);
        for (int wrong : new int[] {-1, 2, 4, MIN, MAX}) {
            Check.index("tankFor(wrong, 1)", () -> x.tankFor(wrong, 1));
            Check.index("greatestLoad(wrong)", () -> x.greatestLoad(wrong));
        }
        for (int wrong : new int[] {0, -1, 5001, MIN, MAX}) {
            Check.argument("tankFor(0, wrong)", () -> x.tankFor(0, wrong));
        }
        WineCooperative none = Check.loaded("cooperative 1 1;classes 1;variety v;");
        Check.same("greatestLoad(0) without tanks", none.greatestLoad(0), 0);
        Check.same("tankFor(0, 1) without tanks", none.tankFor(0, 1), -1);
        WineCooperative wide = Check.loaded("cooperative 1 1;classes 1;variety v;tank 5000;tank 20000;tank 20000;");
        Check.same("greatestLoad(0) of wide tanks", wide.greatestLoad(0), 5000);
        Check.same("tankFor(0, 5000)", wide.tankFor(0, 5000), 0);
        WineCooperative full = with("load 1 100 80;load 1 300 80;load 1 200 80;");
        Check.same("greatestLoad(1) of full tanks", full.greatestLoad(1), 0);
        Check.same("greatestLoad(0) of other tanks", full.greatestLoad(0), 0);
    }

    private static void refusals() {
        Check.part("promises 39 and 40");
        WineCooperative x = with("load 0 90 80;");
        Check.same("refusal(0, 10, 50)", x.refusal(0, 10, 50), 0);
        Check.same("refusal(0, 10, 49)", x.refusal(0, 10, 49), 2);
        Check.same("refusal(0, 301, 49)", x.refusal(0, 301, 49), 2);
        Check.same("refusal(0, 301, 50)", x.refusal(0, 301, 50), 3);
        Check.same("refusal(0, 300, 50)", x.refusal(0, 300, 50), 0);
        Check.same("refusal(2, 300, 49) above the yield limit", x.refusal(2, 300, 49), 2);
        Check.same("valueIfDelivered(0, 10, 80)", x.valueIfDelivered(0, 10, 80), 30);
        Check.same("valueIfDelivered(0, 11, 80)", x.valueIfDelivered(0, 11, 80), 22);
        Check.same("valueIfDelivered(0, 10, 79)", x.valueIfDelivered(0, 10, 79), 20);
        Check.same("valueIfDelivered(0, 10, 49)", x.valueIfDelivered(0, 10, 49), -1);
        Check.same("valueIfDelivered(0, 301, 80)", x.valueIfDelivered(0, 301, 80), -1);
        Check.same("valueIfDelivered(1, 10, 60)", x.valueIfDelivered(1, 10, 60), 0);
        Check.same("loadCount()", x.loadCount(), 1);
        WineCooperative full = with(TWENTY);
        Check.same("refusal(0, 301, 0) of 20 loads", full.refusal(0, 301, 0), 1);
        Check.same("refusal(0, 1, 80) of 20 loads", full.refusal(0, 1, 80), 1);
        Check.same("valueIfDelivered(0, 1, 80)", full.valueIfDelivered(0, 1, 80), -1);
        for (int wrong : new int[] {-1, 3, 8, MIN, MAX}) {
            Check.index("refusal(wrong, 1, 80)", () -> x.refusal(wrong, 1, 80));
            Check.index("valueIfDelivered(wrong, 1, 80)", () -> x.valueIfDelivered(wrong, 1, 80));
        }
        for (int wrong : new int[] {0, -1, 5001, MIN, MAX}) {
            Check.argument("refusal(0, wrong, 80)", () -> x.refusal(0, wrong, 80));
            Check.argument("valueIfDelivered(0, wrong, 80)", () -> x.valueIfDelivered(0, wrong, 80));
        }
        for (int wrong : new int[] {-1, 251, MIN, MAX}) {
            Check.argument("refusal(0, 1, wrong)", () -> x.refusal(0, 1, wrong));
            Check.argument("valueIfDelivered(0, 1, wrong)", () -> x.valueIfDelivered(0, 1, wrong));
        }
        Check.same("refusal(0, 5000, 250)", x.refusal(0, 5000, 250), 3);
        Check.same("refusal(0, 5000, 0)", x.refusal(0, 5000, 0), 2);
    }

    private static void lots() {
        Check.part("promises 41 to 45");
        WineCooperative x = with("load 0 50 80;load 1 50 70;bottle 1 20;bottle 0 10;bottle 0 5;");
        Check.same("lotVariety(0)", x.lotVariety(0), 1);
        Check.same("lotVariety(1)", x.lotVariety(1), 0);
        Check.same("lotSugar(0)", x.lotSugar(0), 70);
        Check.same("lotSugar(2)", x.lotSugar(2), 80);
        Check.same("unsold(0)", x.unsold(0), 20);
        Check.same("unsold(2)", x.unsold(2), 5);
        Check.same("sweetestLot()", x.sweetestLot(), 1);
        Check.same("bottlesOf(0)", x.bottlesOf(0), 50);
        Check.same("bottlesOf(1)", x.bottlesOf(1), 50);
        x.sell(1, 10, 1);
        Check.same("unsold(1)", x.unsold(1), 0);
        Check.same("sweetestLot()", x.sweetestLot(), 2);
        Check.same("bottlesOf(0)", x.bottlesOf(0), 40);
        x.sell(2, 4, 1);
        Check.same("sweetestLot()", x.sweetestLot(), 2);
        x.sell(2, 1, 1);
        Check.same("sweetestLot()", x.sweetestLot(), 0);
        x.sell(0, 20, 1);
        Check.same("sweetestLot() of sold bottles", x.sweetestLot(), -1);
        Check.same("lotSugar(1) of sold bottles", x.lotSugar(1), 80);
        Check.same("sweetestLot() without lots", with("").sweetestLot(), -1);
        Check.same("sweetestLot() of sugar 0", Check.loaded("cooperative 1 0;classes 0;variety v;grower g;plot g v 1;"
                + "tank 9;load 0 2 0;bottle 0 1;").sweetestLot(), 0);
        for (int wrong : new int[] {-1, 3, 12, MIN, MAX}) {
            Check.index("lotVariety(wrong)", () -> x.lotVariety(wrong));
            Check.index("lotSugar(wrong)", () -> x.lotSugar(wrong));
            Check.index("unsold(wrong)", () -> x.unsold(wrong));
        }
        for (int wrong : new int[] {-1, 2, 4, MIN, MAX}) {
            Check.index("bottlesOf(wrong)", () -> x.bottlesOf(wrong));
        }
    }

    private static void money() {
        Check.part("promises 46 to 49");
        WineCooperative x = with("load 0 100 80;load 1 100 80;load 2 50 80;");
        Check.same("owedToAll()", x.owedToAll(), 300 + 500 + 150);
        Check.same("cash()", x.cash(), 1000);
        Check.same("missingCash()", x.missingCash(), 0);
        Check.same("payableGrowers()", x.payableGrowers(), 2);
        x.setPrice(1, 0, 6);
        Check.same("missingCash()", x.missingCash(), 50);
        Check.same("payableGrowers()", x.payableGrowers(), 1);
        x.setPrice(0, 0, 11);
        Check.same("payableGrowers(): until the first one who cannot", x.payableGrowers(), 0);
        x.setPrice(0, 0, 0);
        Check.same("payableGrowers(): the first one is owed nothing", x.payableGrowers(), 1);
        x.setPrice(0, 0, 3);
        x.payGrower(0);
        Check.same("cash()", x.cash(), 700);
        Check.same("owedToAll()", x.owedToAll(), 750);
        Check.same("missingCash()", x.missingCash(), 50);
        Check.same("payableGrowers()", x.payableGrowers(), 0);
        WineCooperative even = with("load 0 100 80;load 1 100 80;price rose 0 7;");
        Check.same("payableGrowers() with just enough", even.payableGrowers(), 2);
        Check.same("missingCash() with just enough", even.missingCash(), 0);
        even.setPrice(1, 0, 8);
        Check.same("payableGrowers() with too little for the second", even.payableGrowers(), 1);
        Check.same("missingCash()", even.missingCash(), 100);
        WineCooperative gap = with("plot cleo red 9;load 0 100 80;load 1 100 80;load 3 10 80;price rose 0 8;");
        Check.same("payableGrowers() stops before the third", gap.payableGrowers(), 1);
        Check.same("payableGrowers() without loads", with("").payableGrowers(), 0);
    }

    private static void checksAndReals() {
        Check.part("promises 50 to 53");
        WineCooperative x = with("load 0 2 80;load 1 1 81;bottle 0 1;sell 0 1 9;pay ann;");
        Check.same("bottleDifference()", x.bottleDifference(), 0);
        Check.same("cashDifference()", x.cashDifference(), 0);
        Check.same("fullness()", x.fullness(), 2.0f / 600.0f);
        Check.same("averageSugar()", x.averageSugar(), 241.0 / 3.0);
        WineCooperative none = Check.loaded("cooperative 1 1;classes 1;");
        Check.same("fullness() without tanks", none.fullness(), 0.0f);
        Check.same("averageSugar() without loads", none.averageSugar(), 0.0);
        Check.same("fullness() of empty tanks", with("").fullness(), 0.0f);
        Check.same("fullness() of full tanks",
                with("load 1 100 80;load 1 300 80;load 1 200 80;").fullness(), 1.0f);
        WineCooperative small = Check.loaded("cooperative 1 1;classes 1;variety v;grower g;plot g v 1;tank 1;"
                + "load 0 1 7;");
        Check.same("fullness() of a small tank", small.fullness(), 1.0f);
        Check.same("averageSugar() of a small load", small.averageSugar(), 7.0);
        x.payGrower(1);
        x.undo();
        Check.same("cashDifference()", x.cashDifference(), 0);
    }

    private static void deliver() {
        Check.part("promise 54");
        WineCooperative x = with("");
        Check.same("deliver(0, 60, 80)", x.deliver(0, 60, 80), 0);
        Check.same("deliver(0, 40, 79)", x.deliver(0, 40, 79), 1);
        Check.same("deliver(0, 1, 250)", x.deliver(0, 1, 250), 1);
        Check.same("the tanks", Check.output(x), "100:red 1:red 0");
        Check.same("tankOfLoad(2)", x.tankOfLoad(2), 1);
        Check.same("plotOfLoad(2)", x.plotOfLoad(2), 0);
        Check.same("meanSugar(0)", x.meanSugar(0), 79);
        Check.state("deliver without a class", () -> x.deliver(0, 1, 49));
        Check.state("deliver without a tank", () -> x.deliver(1, 201, 80));
        Check.same("loadCount()", x.loadCount(), 3);
        for (int wrong : new int[] {-1, 3, 8, MIN, MAX}) {
            Check.index("deliver(wrong, 1, 80)", () -> x.deliver(wrong, 1, 80));
        }
        for (int wrong : new int[] {0, -1, 5001, MIN, MAX}) {
            Check.argument("deliver(0, wrong, 80)", () -> x.deliver(0, wrong, 80));
        }
        for (int wrong : new int[] {-1, 251, MIN, MAX}) {
            Check.argument("deliver(0, 1, wrong)", () -> x.deliver(0, 1, wrong));
        }
        WineCooperative full = with(repeat("load 1 1 80;", 19));
        Check.same("the 20th load", full.deliver(0, 1, 80), 0);
        Check.state("the 21st load", () -> full.deliver(0, 1, 80));
        Check.same("undo", full.undo(), 1);
        WineCooperative wide = Check.loaded("cooperative 200 9;classes 0;variety v;grower g;plot g v 99;tank 5000;");
        Check.same("deliver(0, 5000, 0)", wide.deliver(0, 5000, 0), 0);
        Check.same("content(0)", wide.content(0), 5000);
    }

    private static void setPrice() {
        Check.part("promise 55");
        WineCooperative x = with("load 0 2 80;");
        Check.same("setPrice(0, 0, 999)", x.setPrice(0, 0, 999), 3);
        Check.same("setPrice(0, 0, 0)", x.setPrice(0, 0, 0), 999);
        Check.same("setPrice(0, 0, 7)", x.setPrice(0, 0, 7), 0);
        Check.same("price(0, 0)", x.price(0, 0), 7);
        Check.same("price(0, 1)", x.price(0, 1), 2);
        Check.same("price(1, 0)", x.price(1, 0), 5);
        Check.same("valueOf(0)", x.valueOf(0), 14);
        for (int wrong : new int[] {-1, 2, 4, MIN, MAX}) {
            Check.index("setPrice(wrong, 0, 1)", () -> x.setPrice(wrong, 0, 1));
            Check.index("setPrice(0, wrong, 1)", () -> x.setPrice(0, wrong, 1));
        }
        for (int wrong : new int[] {-1, 1000, MIN, MAX}) {
            Check.argument("setPrice(0, 0, wrong)", () -> x.setPrice(0, 0, wrong));
        }
        Check.same("undo", x.undo(), 3);
        Check.same("price(0, 0)", x.price(0, 0), 0);
    }

    private static void bottle() {
        Check.part("promise 56");
        WineCooperative x = with("load 0 50 80;");
        Check.same("bottle(0, 1)", x.bottle(0, 1), 0);
        Check.state("bottle(0, 50)", () -> x.bottle(0, 50));
        Check.state("bottle(0, 20000)", () -> x.bottle(0, 20000));
        Check.state("bottle(1, 1)", () -> x.bottle(1, 1));
        Check.same("bottle(0, 38)", x.bottle(0, 38), 1);
        for (int i = 2; i < 11; i++) {
            Check.same("bottle(0, 1)", x.bottle(0, 1), i);
        }
        Check.same("bottle(0, 2): all", x.bottle(0, 2), 11);
        Check.same("varietyIn(0)", x.varietyIn(0), -1);
        Check.same("lotVariety(11)", x.lotVariety(11), 0);
        Check.same("lotCount()", x.lotCount(), 12);
        x.deliver(0, 5, 80);
        Check.state("the 13th lot", () -> x.bottle(0, 1));
        Check.same("content(0)", x.content(0), 5);
        for (int wrong : new int[] {-1, 3, 5, MIN, MAX}) {
            Check.index("bottle(wrong, 1)", () -> x.bottle(wrong, 1));
        }
        for (int wrong : new int[] {0, -1, 20001, MIN, MAX}) {
            Check.argument("bottle(0, wrong)", () -> x.bottle(0, wrong));
        }
    }

    private static void sell() {
        Check.part("promise 57");
        WineCooperative x = with("load 0 50 80;bottle 0 40;");
        Check.same("sell(0, 3, 9999)", x.sell(0, 3, 9999), 1000 + 29997);
        Check.same("unsold(0)", x.unsold(0), 37);
        Check.state("sell(0, 38, 1)", () -> x.sell(0, 38, 1));
        Check.state("sell(0, 20000, 9999)", () -> x.sell(0, 20000, 9999));
        Check.same("sell(0, 37, 1)", x.sell(0, 37, 1), 30997 + 37);
        Check.state("sell(0, 1, 1)", () -> x.sell(0, 1, 1));
        for (int wrong : new int[] {-1, 1, 12, MIN, MAX}) {
            Check.index("sell(wrong, 1, 1)", () -> x.sell(wrong, 1, 1));
        }
        for (int wrong : new int[] {0, -1, 20001, MIN, MAX}) {
            Check.argument("sell(0, wrong, 1)", () -> x.sell(0, wrong, 1));
        }
        for (int wrong : new int[] {0, -1, 10000, MIN, MAX}) {
            Check.argument("sell(0, 1, wrong)", () -> x.sell(0, 1, wrong));
        }
        greatestCash();
    }

    /** No run can earn more: all bottles of 20 loads at the greatest price, and nothing paid. */
    private static void greatestCash() {
        WineCooperative x = Check.loaded("cooperative 200 99999;classes 0;variety v;grower g;plot g v 99;tank 20000;");
        for (int lot = 0; lot < 5; lot++) {
            for (int i = 0; i < 4; i++) {
                x.deliver(0, 5000, 1);
            }
            x.bottle(0, 20000);
            Check.same("sell", x.sell(lot, 20000, 9999), 99999 + (lot + 1) * 199980000);
        }
        Check.same("cash()", x.cash(), 999999999);
        Check.same("cashDifference()", x.cashDifference(), 0);
    }

    private static void payLoad() {
        Check.part("promise 58");
        WineCooperative x = with("price red 0 20;load 0 50 80;load 1 5 60;load 1 1 80;");
        Check.same("payLoad(0) with just enough", x.payLoad(0), 1000);
        Check.same("cash()", x.cash(), 0);
        Check.same("isPaid(0)", x.isPaid(0), true);
        Check.state("payLoad(0) again", () -> x.payLoad(0));
        Check.state("payLoad(2) with too little", () -> x.payLoad(2));
        Check.same("payLoad(1) of no value", x.payLoad(1), 0);
        Check.same("isPaid(1)", x.isPaid(1), true);
        Check.state("payLoad(1) again", () -> x.payLoad(1));
        Check.same("paidTo(0)", x.paidTo(0), 1000);
        Check.same("owed(0)", x.owed(0), 0);
        Check.same("undo", x.undo(), 2);
        Check.same("isPaid(1)", x.isPaid(1), false);
        for (int wrong : new int[] {-1, 3, 20, MIN, MAX}) {
            Check.index("payLoad(wrong)", () -> x.payLoad(wrong));
        }
    }

    private static void payGrower() {
        Check.part("promise 59");
        WineCooperative x = with("price red 0 20;load 2 10 80;load 1 120 80;load 0 5 80;load 1 9 60;");
        Check.same("payLoad(0)", x.payLoad(0), 200);
        Check.same("payGrower(1)", x.payGrower(1), 600);
        Check.same("cash()", x.cash(), 200);
        Check.same("isPaid(1)", x.isPaid(1), true);
        Check.same("isPaid(2)", x.isPaid(2), false);
        Check.same("isPaid(3), of no value", x.isPaid(3), true);
        Check.same("paidTo(1)", x.paidTo(1), 800);
        Check.state("payGrower(1) again", () -> x.payGrower(1));
        Check.state("payGrower(2) without loads", () -> x.payGrower(2));
        x.setPrice(0, 0, 41);
        Check.state("payGrower(0) with too little", () -> x.payGrower(0));
        Check.same("isPaid(2)", x.isPaid(2), false);
        x.setPrice(0, 0, 40);
        Check.same("payGrower(0) with just enough", x.payGrower(0), 200);
        Check.same("cash()", x.cash(), 0);
        x.deliver(1, 1, 60);
        Check.same("payGrower(1) of no value", x.payGrower(1), 0);
        Check.same("isPaid(4)", x.isPaid(4), true);
        for (int wrong : new int[] {-1, 3, 6, MIN, MAX}) {
            Check.index("payGrower(wrong)", () -> x.payGrower(wrong));
        }
    }

    private static void pump() {
        Check.part("promise 60");
        WineCooperative x = with("load 0 60 81;load 0 50 50;load 1 200 80;");
        Check.same("the tanks", Check.output(x), "60:red 50:red 200:rose");
        Check.same("pump(0, 1)", x.pump(0, 1), 110);
        Check.same("varietyIn(0)", x.varietyIn(0), -1);
        Check.same("meanSugar(0)", x.meanSugar(0), 0);
        Check.same("meanSugar(1): 7360 by 110", x.meanSugar(1), 66);
        Check.state("pump(0, 1) of an empty tank", () -> x.pump(0, 1));
        Check.state("pump(1, 0) without room", () -> x.pump(1, 0));
        Check.state("pump(1, 2) of another variety", () -> x.pump(1, 2));
        x.bottle(1, 10);
        Check.same("pump(1, 0) with just enough room", x.pump(1, 0), 100);
        Check.same("varietyIn(0)", x.varietyIn(0), 0);
        Check.same("meanSugar(0): 6700 by 100", x.meanSugar(0), 67);
        x.pump(2, 1);
        Check.same("the tanks", Check.output(x), "100:red 200:rose 0");
        x.bottle(0, 99);
        Check.same("pump(0, 2) of one bottle", x.pump(0, 2), 1);
        for (int same = 0; same < 3; same++) {
            int tank = same;
            Check.argument("pump(same, same)", () -> x.pump(tank, tank));
        }
        for (int wrong : new int[] {-1, 3, 5, MIN, MAX}) {
            Check.index("pump(wrong, 0)", () -> x.pump(wrong, 0));
            Check.index("pump(0, wrong)", () -> x.pump(0, wrong));
            Check.index("pump(wrong, wrong)", () -> x.pump(wrong, wrong));
        }
    }

    private static void saveAndRestore() {
        Check.part("promises 61 and 62");
        WineCooperative x = with("load 0 60 81;bottle 0 20;");
        String first = brief(x);
        Check.same("save(0)", x.save(0), 1000);
        Check.state("restore(1)", () -> x.restore(1));
        x.sell(0, 7, 3);
        x.payLoad(0);
        x.deliver(1, 9, 80);
        String second = brief(x);
        Check.same("save(1)", x.save(1), 1021 - 180);
        Check.same("restore(0)", x.restore(0), 1000);
        Check.same("the first state", brief(x), first);
        x.deliver(2, 3, 80);
        Check.same("restore(1)", x.restore(1), 841);
        Check.same("the second state", brief(x), second);
        Check.same("restore(0): the slot keeps it", x.restore(0), 1000);
        Check.same("the first state", brief(x), first);
        Check.same("undo of restore", x.undo(), 5);
        Check.same("the second state", brief(x), second);
        x.undo();
        x.undo();
        x.undo();
        Check.same("undo brings back an earlier state", brief(x), second);
        Check.same("save(0) replaces", x.save(0), 841);
        x.undo();
        Check.same("restore(0)", x.restore(0), 841);
        Check.same("the second state", brief(x), second);
        for (int wrong : new int[] {-1, 2, 3, MIN, MAX}) {
            Check.index("save(wrong)", () -> x.save(wrong));
            Check.index("restore(wrong)", () -> x.restore(wrong));
        }
    }

    private static String brief(WineCooperative x) {
        return x.cash() + " " + x.loadCount() + " " + x.unsold(0) + " " + x.isPaid(0) + " " + x.averageSugar() + " "
                + x.fullness() + " " + x.price(0, 0) + " " + x.owedToAll();
    }

    private static void undo() {
        Check.part("promise 63");
        WineCooperative x = new WineCooperative();
        x.printTanks();
        x.save(0);
        x.setPrice(0, 0, 1);
        Check.same("errors keep the error", Check.load(x, "x"), -7);
        x.append(0x20202020, 0, 0, 0, 0);
        Check.state("a throwing call is no change", () -> x.bottle(0, 20000));
        Check.same("undo", x.undo(), 0);
        Check.same("price(0, 0)", x.price(0, 0), 12);
        Check.same("errorCode() is kept", x.errorCode(), 1);
        Check.same("errorOffset() is kept", x.errorOffset(), 0);
        Check.same("the buffer is kept", x.truncate(4), 4);
        Check.same("the output is kept", x.outputByte(0), (int) '6');
        Check.same("the saved state is kept", x.restore(0), 5000);
        Check.same("undo", x.undo(), 0);
        Check.state("undo of nothing", x::undo);
    }

    private static void undoForgetsAllButTheLatestSix() {
        Check.part("promise 63, six changes");
        WineCooperative x = new WineCooperative();
        for (int cents = 1; cents <= 8; cents++) {
            x.setPrice(0, 0, cents);
        }
        Check.same("undo", x.undo(), 5);
        Check.same("price(0, 0)", x.price(0, 0), 7);
        Check.same("undo", x.undo(), 4);
        x.setPrice(0, 0, 100);
        Check.same("undo of the new change", x.undo(), 4);
        for (int left = 3; left >= 0; left--) {
            Check.same("undo", x.undo(), left);
            Check.same("price(0, 0)", x.price(0, 0), 2 + left);
        }
        Check.state("undo of nothing", x::undo);
        Check.same("price(0, 0)", x.price(0, 0), 2);
        x.setPrice(0, 0, 50);
        Check.same("undo", x.undo(), 0);
        Check.same("price(0, 0)", x.price(0, 0), 2);
    }

    private static void undoOfEachChange() {
        Check.part("promise 63, each change");
        undone("load", x -> Check.load(x, "cooperative 1 1;classes 1;"));
        undone("deliver", x -> x.deliver(0, 5, 80));
        undone("setPrice", x -> x.setPrice(0, 0, 77));
        undone("bottle", x -> x.bottle(0, 40));
        undone("sell", x -> x.sell(0, 20, 3));
        undone("payLoad", x -> x.payLoad(0));
        undone("payGrower", x -> x.payGrower(1));
        undone("pump", x -> x.pump(0, 2));
        undone("restore", x -> x.restore(0));
    }

    private static void undone(String what, Consumer<WineCooperative> change) {
        WineCooperative x = with("load 0 60 81;load 1 50 80;bottle 0 20;");
        x.deliver(0, 5, 80);
        x.save(0);
        x.undo();
        String before = Fingerprint.of(x);
        change.accept(x);
        Check.same(what + " changes something", Fingerprint.of(x).equals(before), false);
        x.undo();
        Check.same("undo of " + what, Fingerprint.of(x), before);
    }

    private static void printing() {
        Check.part("promises 64 and 65");
        WineCooperative x = with("load 1 100 80;load 0 7 80;");
        Check.same("printTanks()", x.printTanks(), "100:rose 7:red 0".length());
        Check.same("the text", Check.output(x), "100:rose 7:red 0");
        x.bottle(0, 100);
        Check.same("the text is of the latest printTanks", x.outputByte(0), (int) '1');
        Check.same("the text", Check.output(x), "0 7:red 0");
        for (int wrong : new int[] {-1, 9, 10, 100, MIN, MAX}) {
            Check.element("outputByte(wrong)", () -> x.outputByte(wrong));
        }
        Check.same("outputByte(8)", x.outputByte(8), (int) '0');
        Check.load(x, "cooperative 200 1;classes 0;");
        Check.same("printTanks() without tanks", x.printTanks(), 0);
        Check.element("outputByte(0)", () -> x.outputByte(0));
        WineCooperative wide = Check.loaded("cooperative 200 0;classes 0;variety zzzz;variety a;grower aaaa;"
                + "plot aaaa zzzz 99;plot aaaa a 1;" + repeat("tank 20000;", 5));
        for (int i = 0; i < 20; i++) {
            wide.deliver(0, 5000, 9);
        }
        Check.same("the text", Check.output(wide), "20000:zzzz 20000:zzzz 20000:zzzz 20000:zzzz 20000:zzzz");
        wide.undo();
        wide.bottle(4, 15000);
        wide.deliver(1, 3, 9);
        Check.same("the text", Check.output(wide), "20000:zzzz 20000:zzzz 20000:zzzz 20000:zzzz 3:a");
    }

    /** If several exceptions are due, the one that the document names first is thrown. */
    private static void orderOfExceptions() {
        Check.part("several exceptions");
        WineCooperative x = with("load 0 9 80;bottle 0 3;");
        Check.index("tankFor(2, 0)", () -> x.tankFor(2, 0));
        Check.index("refusal(3, 0, 251)", () -> x.refusal(3, 0, 251));
        Check.index("valueIfDelivered(3, 0, 251)", () -> x.valueIfDelivered(3, 0, 251));
        Check.index("deliver(3, 0, 251)", () -> x.deliver(3, 0, 251));
        Check.argument("deliver(0, 5001, 0)", () -> x.deliver(0, 5001, 0));
        Check.index("setPrice(0, 2, 1000)", () -> x.setPrice(0, 2, 1000));
        Check.index("bottle(3, 0)", () -> x.bottle(3, 0));
        Check.argument("bottle(0, 20001)", () -> x.bottle(0, 20001));
        Check.index("sell(1, 0, 0)", () -> x.sell(1, 0, 0));
        Check.argument("sell(0, 20000, 0)", () -> x.sell(0, 20000, 0));
        Check.index("pump(3, 3)", () -> x.pump(3, 3));
        Check.argument("pump(2, 2) of an empty tank", () -> x.pump(2, 2));
    }
}
