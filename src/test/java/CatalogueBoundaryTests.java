/** The boundary cases of the promises 7 to 18: the counts, the classes, the prices, the pairs that were delivered. */
final class CatalogueBoundaryTests {
    private static final String FOUR = "cooperative 200 0;classes 90 75 60 45;variety a;variety b;variety c;variety d;"
            + "grower g;plot g a 99;plot g b 99;plot g c 99;plot g d 99;"
            + "tank 20000;tank 20000;tank 20000;tank 20000;";
    private static final String RANGE = "Throws `IllegalArgumentException` if sugar is out of range";
    private static final String NO_PAIR = "Throws `IndexOutOfBoundsException` if there is no such variety or class";

    private CatalogueBoundaryTests() {
    }

    public static void main(String[] args) {
        Sentences.run(CatalogueBoundaryTests.class);
    }

    /** A load of each of the 16 pairs, the last variety first and the last class first. */
    private static WineCooperative allPairs() {
        WineCooperative x = Check.loaded(FOUR);
        for (int i = 15; i >= 0; i--) {
            x.deliver(i / 4, 10, 90 - 15 * (i % 4));
        }
        return x;
    }

    @Sentence(of = "Promise 7", says = "Returns the number of varieties.")
    static void promise7From0To4Varieties() {
        Check.same("none", Samples.none().varietyCount(), 0);
        Check.same("one", Samples.one().varietyCount(), 1);
        Check.same("four", Samples.wide(0, 0).varietyCount(), 4);
    }

    @Sentence(of = "Promise 8", says = "Returns the number of classes.")
    static void promise8From1To4Classes() {
        Check.same("one", Samples.none().classCount(), 1);
        Check.same("three", new WineCooperative().classCount(), 3);
        Check.same("four", Samples.wide(0, 0).classCount(), 4);
    }

    @Sentence(of = "Promise 9", says = "Returns the number of growers.")
    static void promise9From0To6Growers() {
        Check.same("none", Samples.none().growerCount(), 0);
        Check.same("one", Samples.one().growerCount(), 1);
        Check.same("six", Samples.wide(0, 0).growerCount(), 6);
    }

    @Sentence(of = "Promise 10", says = "Returns the number of plots.")
    static void promise10From0To8Plots() {
        Check.same("none", Samples.none().plotCount(), 0);
        Check.same("one", Samples.one().plotCount(), 1);
        Check.same("eight", Samples.wide(0, 0).plotCount(), 8);
    }

    @Sentence(of = "Promise 11", says = "Returns the number of loads.")
    static void promise11From0To20Loads() {
        Check.same("none", Samples.none().loadCount(), 0);
        WineCooperative x = Samples.wide(0, 0);
        for (int loads = 1; loads <= 20; loads++) {
            x.deliver(1, 1, 90);
            Check.same("loadCount()", x.loadCount(), loads);
        }
        Check.state("the 21st load", () -> x.deliver(1, 1, 90));
        Check.same("loadCount() of the full store", x.loadCount(), 20);
        x.undo();
        Check.same("loadCount() after undo", x.loadCount(), 19);
    }

    @Sentence(of = "Promise 12", says = "Returns the number of lots.")
    static void promise12From0To12Lots() {
        Check.same("none", Samples.none().lotCount(), 0);
        WineCooperative x = Samples.wide(20, 0);
        for (int lots = 1; lots <= 12; lots++) {
            x.bottle(1, 1);
            Check.same("lotCount()", x.lotCount(), lots);
        }
        Check.state("the 13th lot", () -> x.bottle(1, 1));
        Check.same("lotCount() of the full store", x.lotCount(), 12);
        x.sell(0, 1, 1);
        Check.same("lotCount() after a sale", x.lotCount(), 12);
    }

    @Sentence(of = "Promise 13", says = "- `sugar`: 0 to 250")
    static void promise13SugarFrom0To250() {
        WineCooperative x = new WineCooperative();
        Check.same("classBySugar(0)", x.classBySugar(0), -1);
        Check.same("classBySugar(250)", x.classBySugar(250), 0);
        Check.same("classBySugar(0) of lowest 0", Samples.huge(0).classBySugar(0), 1);
    }

    @Sentence(of = "Promise 13", says = "Returns the class by sugar, -1 if there is none.")
    static void promise13TheClassOrMinus1() {
        WineCooperative x = new WineCooperative();
        int[] sugars = {90, 89, 75, 74, 60, 59};
        int[] due = {0, 1, 1, 2, 2, -1};
        for (int i = 0; i < due.length; i++) {
            Check.same("classBySugar(" + sugars[i] + ")", x.classBySugar(sugars[i]), due[i]);
        }
        Check.same("a single class", Samples.none().classBySugar(60), 0);
        Check.same("below a single class", Samples.none().classBySugar(59), -1);
    }

    @Sentence(of = "Promise 13", says = RANGE)
    static void promise13ThrowsForASugarOutOfRange() {
        Edges.outOfRange(0, 250, WineCooperative::new, WineCooperative::classBySugar);
    }

    @Sentence(of = "Promise 14", says = "Returns the price.")
    static void promise14ThePriceFrom0To999() {
        WineCooperative x = Check.loaded(FOUR + "price a 0 999;price d 3 998;price a 3 1;price d 0 2;");
        Check.same("price(0, 0)", x.price(0, 0), 999);
        Check.same("price(3, 3)", x.price(3, 3), 998);
        Check.same("price(0, 3)", x.price(0, 3), 1);
        Check.same("price(3, 0)", x.price(3, 0), 2);
        Check.same("price(1, 0) that was never set", x.price(1, 0), 0);
    }

    @Sentence(of = "Promise 14", says = NO_PAIR)
    static void promise14ThrowsForNoSuchVarietyOrClass() {
        Edges.noSuchVarietyOrClass(WineCooperative::price);
    }

    @Sentence(of = "Promise 15", says = "Returns the weight of all loads of this variety and class.")
    static void promise15TheWeightFrom0To100000() {
        WineCooperative x = Samples.huge(20);
        Check.same("class 0: up to the yield limit", x.weightOfClass(0, 0), 15000);
        Check.same("class 1: above it", x.weightOfClass(0, 1), 85000);
        WineCooperative most = Check.loaded(Samples.HUGE);
        for (int i = 0; i < 20; i++) {
            most.deliver(0, 5000, 0);
        }
        Check.same("the greatest weight", most.weightOfClass(0, 1), 100000);
        Check.same("no load", most.weightOfClass(0, 0), 0);
        Check.same("no load at all", Samples.wide(0, 0).weightOfClass(3, 3), 0);
        most.payLoad(0);
        Check.same("a paid load counts", most.weightOfClass(0, 1), 100000);
    }

    @Sentence(of = "Promise 15", says = NO_PAIR)
    static void promise15ThrowsForNoSuchVarietyOrClass() {
        Edges.noSuchVarietyOrClass(WineCooperative::weightOfClass);
    }

    @Sentence(of = "Promise 16", says = "Returns the number of pairs of a variety and a class")
    static void promise16From0To16Pairs() {
        Check.same("no varieties", Samples.none().deliveredClasses(), 0);
        Check.same("no loads", Check.loaded(FOUR).deliveredClasses(), 0);
        Check.same("all pairs", allPairs().deliveredClasses(), 16);
        Check.same("20 loads of one pair", Samples.base(Samples.times(20, "load 1 1 80;")).deliveredClasses(), 1);
        WineCooperative x = Samples.base("load 2 50 80;");
        Check.same("one load", x.deliveredClasses(), 1);
        x.deliver(2, 1, 80);
        Check.same("a lowered load", x.deliveredClasses(), 2);
        x.deliver(0, 1, 80);
        Check.same("the same pair from another plot", x.deliveredClasses(), 2);
    }

    @Sentence(of = "Promise 17", says = "- `rank`: 0 for the first pair, 1 for the next one, and so on")
    static void promise17RanksFrom0On() {
        WineCooperative x = Samples.base("load 1 1 60;load 0 1 80;");
        Check.same("classInOrder(0)", x.classInOrder(0), 11);
        Check.same("classInOrder(1)", x.classInOrder(1), 0);
    }

    @Sentence(of = "Promise 17", says = "Returns 10 times the variety plus the class of the pair at this rank")
    static void promise17PairsByTheirFirstLoads() {
        WineCooperative x = allPairs();
        for (int rank = 0; rank < 16; rank++) {
            int i = 15 - rank;
            Check.same("classInOrder(" + rank + ")", x.classInOrder(rank), 10 * (i / 4) + i % 4);
        }
        WineCooperative y = Samples.base("load 1 1 80;load 0 9 80;load 1 1 60;load 1 9 80;load 0 1 60;");
        Check.same("classInOrder(0)", y.classInOrder(0), 10);
        Check.same("classInOrder(1)", y.classInOrder(1), 0);
        Check.same("classInOrder(2)", y.classInOrder(2), 11);
        Check.same("classInOrder(3): a later load of the first pair has no rank", y.classInOrder(3), 1);
    }

    @Sentence(of = "Promise 17", says = "Throws `NoSuchElementException` if there is no such rank")
    static void promise17ThrowsForNoSuchRank() {
        WineCooperative all = allPairs();
        for (int wrong : new int[] {Samples.MIN, -1, 16, 17, Samples.MAX}) {
            Check.element("classInOrder(" + wrong + ")", () -> all.classInOrder(wrong));
        }
        Check.same("classInOrder(15)", all.classInOrder(15), 0);
        WineCooperative one = Samples.one();
        one.deliver(0, 1, 70);
        Check.same("classInOrder(0)", one.classInOrder(0), 0);
        Check.element("classInOrder(1) of two loads of a pair", () -> one.classInOrder(1));
        Check.element("classInOrder(0) without loads", () -> Check.loaded(FOUR).classInOrder(0));
    }

    @Sentence(of = "Promise 18", says = "of the pair with the greatest weight of all its loads")
    static void promise18TheGreatestWeightOfAllItsLoads() {
        WineCooperative x = Samples.base("load 0 5 80;load 1 3 80;load 1 3 80;");
        Check.same("greatestClass() of two loads together", x.greatestClass(), 10);
        WineCooperative all = allPairs();
        all.deliver(0, 1, 45);
        Check.same("greatestClass() by one kilogram", all.greatestClass(), 3);
        Check.same("greatestClass() of 20 loads", Samples.huge(20).greatestClass(), 1);
    }

    @Sentence(of = "Promise 18", says = "among several the one whose first load came first")
    static void promise18AmongSeveralTheFirstLoadCameFirst() {
        Check.same("all pairs", allPairs().greatestClass(), 33);
        WineCooperative x = Samples.base("load 1 1 80;load 0 5 80;load 1 4 80;");
        Check.same("the first load came first, though it was small", x.greatestClass(), 10);
        WineCooperative y = Samples.base("load 1 1 80;load 0 5 80;load 1 3 80;");
        Check.same("one kilogram less", y.greatestClass(), 0);
    }

    @Sentence(of = "Promise 18", says = "-1 if there are no loads.")
    static void promise18Minus1WithoutLoads() {
        Check.same("no loads", Check.loaded(FOUR).greatestClass(), -1);
        Check.same("no varieties", Samples.none().greatestClass(), -1);
        Check.same("the pair 0", Samples.one().greatestClass(), 0);
        Check.same("one load of one kilogram", Samples.base("load 1 1 60;").greatestClass(), 11);
    }
}
