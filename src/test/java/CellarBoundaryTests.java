/** The boundary cases of the promises 34 to 53: tanks, loads that might come, lots, money and the checks. */
final class CellarBoundaryTests {
    private static final String NO_TANK = "Throws `IndexOutOfBoundsException` if there is no such tank";
    private static final String NO_VARIETY = "Throws `IndexOutOfBoundsException` if there is no such variety";
    private static final String NO_PLOT = "Throws `IndexOutOfBoundsException` if there is no such plot";
    private static final String NO_LOT = "Throws `IndexOutOfBoundsException` if there is no such lot";
    private static final String BAD_WEIGHT = "Throws `IllegalArgumentException` if weight is out of range";
    private static final String BAD_LOAD = "Throws `IllegalArgumentException` if weight or sugar is out of range";
    private static final String WEIGHT = "- `weight`: 1 to 5000";
    private static final String SUGAR = "- `sugar`: 0 to 250";
    private static final String ALWAYS_0 = "Returns the difference, which is always 0.";

    private CellarBoundaryTests() {
    }

    public static void main(String[] args) {
        Sentences.run(CellarBoundaryTests.class);
    }

    @Sentence(of = "Promise 34", says = "Returns its content.")
    static void promise34TheContentFrom0To20000() {
        WineCooperative x = Samples.huge(4);
        Check.same("a full tank", x.content(0), 20000);
        Check.same("an empty tank", x.content(1), 0);
        x.bottle(0, 19999);
        Check.same("one bottle", x.content(0), 1);
        x.bottle(0, 1);
        Check.same("none", x.content(0), 0);
    }

    @Sentence(of = "Promise 34", says = NO_TANK)
    static void promise34ThrowsForNoSuchTank() {
        Edges.noSuchTank(WineCooperative::content);
    }

    @Sentence(of = "Promise 35", says = "Returns its variety, -1 if it is empty.")
    static void promise35Minus1IfItIsEmpty() {
        WineCooperative x = Samples.wide(4, 0);
        Check.same("the last variety", x.varietyIn(3), 3);
        Check.same("the first variety", x.varietyIn(0), 0);
        Check.same("never filled", x.varietyIn(4), -1);
        x.bottle(3, 9);
        Check.same("one bottle", x.varietyIn(3), 3);
        x.bottle(3, 1);
        Check.same("bottled", x.varietyIn(3), -1);
        x.pump(0, 3);
        Check.same("pumped out", x.varietyIn(0), -1);
        Check.same("pumped in", x.varietyIn(3), 0);
    }

    @Sentence(of = "Promise 35", says = NO_TANK)
    static void promise35ThrowsForNoSuchTank() {
        Edges.noSuchTank(WineCooperative::varietyIn);
    }

    @Sentence(of = "Promise 36", says = "Returns its mean sugar, 0 if it is empty.")
    static void promise36TheMeanFrom0To250And0IfEmpty() {
        WineCooperative x = Samples.huge(4);
        Check.same("a full tank of the greatest sugar", x.meanSugar(0), 250);
        Check.same("never filled", x.meanSugar(1), 0);
        x.bottle(0, 19999);
        Check.same("one bottle", x.meanSugar(0), 250);
        x.bottle(0, 1);
        Check.same("bottled", x.meanSugar(0), 0);
        x.deliver(1, 1, 0);
        Check.same("sugar 0", x.meanSugar(0), 0);
        x.deliver(1, 1, 1);
        Check.same("1 by 2, rounded down", x.meanSugar(0), 0);
        x.pump(0, 1);
        Check.same("pumped out", x.meanSugar(0), 0);
    }

    @Sentence(of = "Promise 36", says = NO_TANK)
    static void promise36ThrowsForNoSuchTank() {
        Edges.noSuchTank(WineCooperative::meanSugar);
    }

    @Sentence(of = "Promise 37", says = WEIGHT)
    static void promise37WeightFrom1To5000() {
        WineCooperative x = Samples.huge(0);
        Check.same("tankFor(0, 1)", x.tankFor(0, 1), 0);
        Check.same("tankFor(0, 5000)", x.tankFor(0, 5000), 0);
    }

    @Sentence(of = "Promise 37", says = "Returns the tank for this weight of the variety, -1 if there is none.")
    static void promise37Minus1IfThereIsNoTank() {
        WineCooperative x = Samples.base("load 0 60 80;");
        Check.same("just enough room", x.tankFor(0, 40), 0);
        Check.same("one more", x.tankFor(0, 41), 1);
        Check.same("just enough capacity", x.tankFor(0, 300), 1);
        Check.same("too much for all", x.tankFor(0, 301), -1);
        Check.same("room among another variety", x.tankFor(1, 1), 1);
        Check.same("no tanks", Check.loaded(Samples.NONE + "variety v;").tankFor(0, 1), -1);
        Check.same("only full tanks", Samples.base("load 0 100 80;load 0 300 80;load 0 200 80;").tankFor(0, 1), -1);
        Check.same("the last tank", Samples.huge(19).tankFor(0, 5000), 4);
        Check.same("none of 5 full tanks", Samples.huge(20).tankFor(0, 1), -1);
    }

    @Sentence(of = "Promise 37", says = NO_VARIETY)
    static void promise37ThrowsForNoSuchVariety() {
        Edges.noSuchVariety((x, variety) -> x.tankFor(variety, 1));
    }

    @Sentence(of = "Promise 37", says = BAD_WEIGHT)
    static void promise37ThrowsForAWeightOutOfRange() {
        Edges.outOfRange(1, 5000, WineCooperative::new, (x, weight) -> x.tankFor(0, weight));
    }

    @Sentence(of = "Promise 38", says = "Returns the greatest weight, 0 to 5000, for which there is a tank.")
    static void promise38From0To5000() {
        Check.same("no tanks", Check.loaded(Samples.NONE + "variety v;").greatestLoad(0), 0);
        Check.same("more room than 5000", Samples.huge(0).greatestLoad(0), 5000);
        WineCooperative x = Samples.huge(19);
        Check.same("room of 5000", x.greatestLoad(0), 5000);
        x.deliver(0, 1, 0);
        Check.same("room of 4999", x.greatestLoad(0), 4999);
        Check.same("only full tanks", Samples.huge(20).greatestLoad(0), 0);
    }

    @Sentence(of = "Promise 38", says = "Returns the greatest weight, 0 to 5000, for which there is a tank.")
    static void promise38TheGreatestOfAllTanks() {
        WineCooperative x = Samples.base("load 0 90 80;load 1 299 80;");
        Check.same("an empty tank", x.greatestLoad(0), 200);
        x.deliver(0, 150, 80);
        Check.same("tanks of the variety", x.greatestLoad(0), 50);
        Check.same("tanks of the other variety", x.greatestLoad(1), 1);
        Check.same("tankFor the greatest", x.tankFor(0, 50), 2);
        Check.same("tankFor one more", x.tankFor(0, 51), -1);
    }

    @Sentence(of = "Promise 38", says = NO_VARIETY)
    static void promise38ThrowsForNoSuchVariety() {
        Edges.noSuchVariety(WineCooperative::greatestLoad);
    }

    @Sentence(of = "Promise 39", says = WEIGHT)
    static void promise39WeightFrom1To5000() {
        Check.same("refusal(0, 1, 80)", Samples.huge(0).refusal(0, 1, 80), 0);
        Check.same("refusal(0, 5000, 80)", Samples.huge(0).refusal(0, 5000, 80), 0);
    }

    @Sentence(of = "Promise 39", says = SUGAR)
    static void promise39SugarFrom0To250() {
        Check.same("refusal(0, 1, 0)", Samples.huge(0).refusal(0, 1, 0), 0);
        Check.same("refusal(0, 1, 250)", Samples.huge(0).refusal(0, 1, 250), 0);
        Check.same("refusal(0, 1, 0) without a class", new WineCooperative().refusal(0, 1, 0), 2);
    }

    @Sentence(of = "Promise 39", says = "Returns 0 if a load with this weight and sugar from the plot would be accepted")
    static void promise39The0OfALoadThatWouldBeAccepted() {
        WineCooperative x = Samples.base(Samples.times(19, "load 1 1 80;"));
        Check.same("the last load", x.refusal(0, 300, 50), 0);
        Check.same("above the yield limit", x.refusal(2, 51, 80), 0);
        Check.same("loadCount(): nothing was delivered", x.loadCount(), 19);
        Check.same("deliver", x.deliver(0, 300, 50), 1);
    }

    @Sentence(of = "Promise 39", says = "otherwise the first reason for which it is refused.")
    static void promise39TheFirstReason() {
        WineCooperative x = Samples.base(Samples.times(19, "load 1 1 80;"));
        Check.same("no tank", x.refusal(0, 301, 50), 3);
        Check.same("no class", x.refusal(0, 300, 49), 2);
        Check.same("no class and no tank", x.refusal(0, 301, 49), 2);
        x.deliver(1, 1, 80);
        Check.same("20 loads", x.refusal(0, 1, 80), 1);
        Check.same("20 loads, no class and no tank", x.refusal(0, 301, 49), 1);
    }

    @Sentence(of = "Promise 39", says = NO_PLOT)
    static void promise39ThrowsForNoSuchPlot() {
        Edges.noSuchPlot((x, plot) -> x.refusal(plot, 1, 80));
    }

    @Sentence(of = "Promise 39", says = BAD_LOAD)
    static void promise39ThrowsForAWeightOrSugarOutOfRange() {
        Edges.outOfRange(1, 5000, WineCooperative::new, (x, weight) -> x.refusal(0, weight, 80));
        Edges.outOfRange(0, 250, WineCooperative::new, (x, sugar) -> x.refusal(0, 1, sugar));
        WineCooperative full = Samples.wide(20, 0);
        Check.argument("weight 0 where each load is refused", () -> full.refusal(0, 0, 80));
        Check.argument("sugar 251 where each load is refused", () -> full.refusal(0, 1, 251));
    }

    @Sentence(of = "Promise 40", says = WEIGHT)
    static void promise40WeightFrom1To5000() {
        WineCooperative x = Samples.huge(0);
        x.setPrice(0, 0, 999);
        Check.same("valueIfDelivered(0, 1, 250)", x.valueIfDelivered(0, 1, 250), 999);
        Check.same("valueIfDelivered(0, 5000, 250)", x.valueIfDelivered(0, 5000, 250), 4995000);
    }

    @Sentence(of = "Promise 40", says = SUGAR)
    static void promise40SugarFrom0To250() {
        WineCooperative x = Samples.huge(0);
        x.setPrice(0, 0, 3);
        x.setPrice(0, 1, 2);
        Check.same("valueIfDelivered(0, 1, 0)", x.valueIfDelivered(0, 1, 0), 2);
        Check.same("valueIfDelivered(0, 1, 250)", x.valueIfDelivered(0, 1, 250), 3);
    }

    @Sentence(of = "Promise 40", says = "Returns the value that a load with this weight and sugar from the plot would have")
    static void promise40TheValueUpToTheYieldLimitAndAboveIt() {
        WineCooperative x = Samples.base("load 0 60 80;");
        Check.same("up to the limit", x.valueIfDelivered(0, 40, 80), 120);
        Check.same("above the limit", x.valueIfDelivered(0, 41, 80), 82);
        Check.same("at price 0", x.valueIfDelivered(1, 40, 50), 0);
        Check.same("loadCount(): nothing was delivered", x.loadCount(), 1);
        x.deliver(0, 41, 80);
        Check.same("valueOf(1)", x.valueOf(1), 82);
    }

    @Sentence(of = "Promise 40", says = "-1 if it would be refused.")
    static void promise40Minus1IfItWouldBeRefused() {
        WineCooperative x = Samples.base(Samples.times(19, "load 1 1 80;"));
        Check.same("the last load", x.valueIfDelivered(1, 1, 80), 5);
        Check.same("no tank", x.valueIfDelivered(1, 301, 80), -1);
        Check.same("no class", x.valueIfDelivered(1, 1, 49), -1);
        Check.same("no class, above the yield limit", x.valueIfDelivered(2, 51, 49), -1);
        x.deliver(1, 1, 80);
        Check.same("20 loads", x.valueIfDelivered(1, 1, 80), -1);
    }

    @Sentence(of = "Promise 40", says = NO_PLOT)
    static void promise40ThrowsForNoSuchPlot() {
        Edges.noSuchPlot((x, plot) -> x.valueIfDelivered(plot, 1, 80));
    }

    @Sentence(of = "Promise 40", says = BAD_LOAD)
    static void promise40ThrowsForAWeightOrSugarOutOfRange() {
        Edges.outOfRange(1, 5000, WineCooperative::new, (x, weight) -> x.valueIfDelivered(0, weight, 80));
        Edges.outOfRange(0, 250, WineCooperative::new, (x, sugar) -> x.valueIfDelivered(0, 1, sugar));
        WineCooperative full = Samples.wide(20, 0);
        Check.argument("weight 0 where each load is refused", () -> full.valueIfDelivered(0, 0, 80));
        Check.argument("sugar 251 where each load is refused", () -> full.valueIfDelivered(0, 1, 251));
    }

    @Sentence(of = "Promise 41", says = "Returns its variety.")
    static void promise41TheVarietyOfTheFirstAndTheLastLot() {
        WineCooperative x = Samples.wide(20, 12);
        Check.same("lotVariety(0)", x.lotVariety(0), 0);
        Check.same("lotVariety(8), of the last variety", x.lotVariety(8), 3);
        Check.same("lotVariety(11)", x.lotVariety(11), 1);
        x.sell(11, 1, 1);
        Check.same("lotVariety(11) when sold", x.lotVariety(11), 1);
    }

    @Sentence(of = "Promise 41", says = NO_LOT)
    static void promise41ThrowsForNoSuchLot() {
        Edges.noSuchLot(WineCooperative::lotVariety);
    }

    @Sentence(of = "Promise 42", says = "Returns its mean sugar.")
    static void promise42TheMeanSugarFrom0To250() {
        WineCooperative x = Samples.huge(4);
        x.deliver(1, 1, 0);
        x.bottle(0, 20000);
        x.bottle(1, 1);
        Check.same("the greatest", x.lotSugar(0), 250);
        Check.same("the least", x.lotSugar(1), 0);
        x.sell(0, 20000, 1);
        Check.same("when sold", x.lotSugar(0), 250);
        WineCooperative y = Samples.base("load 0 1 80;load 0 1 81;bottle 0 2;");
        Check.same("161 by 2, rounded down", y.lotSugar(0), 80);
    }

    @Sentence(of = "Promise 42", says = NO_LOT)
    static void promise42ThrowsForNoSuchLot() {
        Edges.noSuchLot(WineCooperative::lotSugar);
    }

    @Sentence(of = "Promise 43", says = "Returns the number of its bottles that are not sold.")
    static void promise43From20000DownTo0() {
        WineCooperative x = Samples.huge(4);
        x.bottle(0, 20000);
        Check.same("none sold", x.unsold(0), 20000);
        x.sell(0, 19999, 1);
        Check.same("one left", x.unsold(0), 1);
        x.sell(0, 1, 1);
        Check.same("all sold", x.unsold(0), 0);
        x.undo();
        Check.same("after undo", x.unsold(0), 1);
    }

    @Sentence(of = "Promise 43", says = NO_LOT)
    static void promise43ThrowsForNoSuchLot() {
        Edges.noSuchLot(WineCooperative::unsold);
    }

    @Sentence(of = "Promise 44", says = "Returns the lot with the greatest mean sugar among those with bottles that are not sold")
    static void promise44OnlyLotsWithBottlesThatAreNotSold() {
        WineCooperative x = Samples.base("load 0 9 80;load 1 9 81;bottle 0 2;bottle 1 2;");
        Check.same("the greatest by one", x.sweetestLot(), 1);
        x.sell(1, 1, 1);
        Check.same("one bottle left", x.sweetestLot(), 1);
        x.sell(1, 1, 1);
        Check.same("none left", x.sweetestLot(), 0);
    }

    @Sentence(of = "Promise 44", says = "among several the one with the smallest number")
    static void promise44AmongSeveralTheSmallestNumber() {
        WineCooperative x = Samples.wide(20, 12);
        for (int lot = 0; lot < 12; lot++) {
            Check.same("sweetestLot()", x.sweetestLot(), lot);
            x.sell(lot, 1, 1);
        }
    }

    @Sentence(of = "Promise 44", says = "-1 if there is none.")
    static void promise44Minus1IfThereIsNone() {
        Check.same("no lots", Samples.wide(20, 0).sweetestLot(), -1);
        WineCooperative x = Samples.base("load 0 9 80;bottle 0 2;sell 0 2 1;");
        Check.same("all sold", x.sweetestLot(), -1);
        WineCooperative least = Samples.huge(0);
        least.deliver(0, 1, 0);
        least.bottle(0, 1);
        Check.same("a lot of sugar 0", least.sweetestLot(), 0);
    }

    @Sentence(of = "Promise 45", says = "Returns the number of bottles of the variety that are in tanks or in lots and not sold.")
    static void promise45From0To100000() {
        Check.same("none", Samples.huge(0).bottlesOf(0), 0);
        WineCooperative x = Samples.huge(20);
        Check.same("five full tanks", x.bottlesOf(0), 100000);
        x.bottle(0, 20000);
        Check.same("in tanks and in a lot", x.bottlesOf(0), 100000);
        x.sell(0, 20000, 1);
        Check.same("not what is sold", x.bottlesOf(0), 80000);
        WineCooperative y = Samples.base("load 0 9 80;load 1 7 80;bottle 0 9;bottle 1 7;");
        Check.same("of one variety", y.bottlesOf(0), 9);
        Check.same("of the other one", y.bottlesOf(1), 7);
        y.sell(1, 7, 1);
        Check.same("all sold", y.bottlesOf(1), 0);
        WineCooperative full = Samples.wide(20, 12);
        Check.same("with 12 lots", full.bottlesOf(0), 50);
        full.sell(11, 1, 1);
        Check.same("with 12 lots, one of them sold", full.bottlesOf(1), 49);
        WineCooperative again = Check.loaded(Samples.ONE);
        Check.load(again, Samples.ONE.replace("bottle 0 10;", ""));
        Check.same("no lot of an earlier text", again.bottlesOf(0), 40);
        WineCooperative z = Samples.base("load 0 9 80;load 1 7 80;");
        Check.same("in a tank beside another variety", z.bottlesOf(0), 9);
        Check.same("in a tank behind another variety", z.bottlesOf(1), 7);
    }

    @Sentence(of = "Promise 45", says = NO_VARIETY)
    static void promise45ThrowsForNoSuchVariety() {
        Edges.noSuchVariety(WineCooperative::bottlesOf);
    }

    @Sentence(of = "Promise 46", says = "Returns the cents by which the cash is less than the value of all loads")
    static void promise46TheCentsThatAreMissing() {
        WineCooperative x = Samples.base("load 1 200 80;load 0 1 60;");
        Check.same("1002 of 1000", x.missingCash(), 2);
        x.payLoad(0);
        Check.same("2 of 0", x.missingCash(), 2);
        WineCooperative most = Samples.huge(20);
        most.setPrice(0, 0, 999);
        most.setPrice(0, 1, 999);
        Check.same("the most", most.missingCash(), 99900000 - 99999);
    }

    @Sentence(of = "Promise 46", says = "0 if it is not less.")
    static void promise46Is0IfTheCashIsNotLess() {
        Check.same("just enough", Samples.base("load 1 200 80;").missingCash(), 0);
        Check.same("more than enough", Samples.base("load 1 199 80;").missingCash(), 0);
        Check.same("nothing owed, no cash", Samples.none().missingCash(), 0);
        WineCooperative x = Samples.base("load 1 200 80;pay bert;");
        Check.same("all paid, no cash left", x.missingCash(), 0);
    }

    @Sentence(of = "Promise 47", says = "Returns the cash.")
    static void promise47TheCashFrom0On() {
        Check.same("none", Samples.none().cash(), 0);
        Check.same("of the text", Samples.huge(0).cash(), 99999);
        WineCooperative x = Samples.base("load 1 200 80;bottle 1 200;");
        x.payGrower(1);
        Check.same("all paid out", x.cash(), 0);
        x.sell(0, 200, 9999);
        Check.same("sold", x.cash(), 1999800);
    }

    @Sentence(of = "Promise 48", says = "Returns the value of all loads that are not paid.")
    static void promise48From0To99900000() {
        Check.same("no loads", Samples.huge(0).owedToAll(), 0);
        WineCooperative most = Samples.huge(20);
        Check.same("at price 0", most.owedToAll(), 0);
        most.setPrice(0, 0, 999);
        most.setPrice(0, 1, 999);
        Check.same("the greatest", most.owedToAll(), 99900000);
        WineCooperative x = Samples.base("load 0 1 80;load 1 1 80;load 2 1 60;");
        Check.same("of all growers", x.owedToAll(), 3 + 5 + 2);
        x.payLoad(1);
        Check.same("less a paid load", x.owedToAll(), 3 + 2);
        x.payGrower(1);
        x.payGrower(0);
        Check.same("all paid", x.owedToAll(), 0);
    }

    @Sentence(of = "Promise 49", says = "Returns the number of growers to whom more than 0 is owed")
    static void promise49OnlyGrowersToWhomMoreThan0IsOwed() {
        Check.same("no growers", Samples.none().payableGrowers(), 0);
        Check.same("no loads", Samples.base("").payableGrowers(), 0);
        Check.same("a load of no value", Samples.base("load 1 9 60;").payableGrowers(), 0);
        Check.same("a load of 1 cent and one of no value",
                Samples.base("price red 1 1;load 0 1 60;load 1 9 60;").payableGrowers(), 1);
        Check.same("the first one is owed nothing", Samples.base("load 1 9 80;").payableGrowers(), 1);
        Check.same("the first one is paid", Samples.base("load 0 9 80;pay ann;load 1 9 80;").payableGrowers(), 1);
    }

    @Sentence(of = "Promise 49", says = "one after the other, by ascending number, until the first one who cannot.")
    static void promise49UntilTheFirstOneWhoCannot() {
        String three = "plot cleo red 9;load 0 100 80;load 1 100 80;load 3 50 80;";
        Check.same("300, 500 and 150 of 1000", Samples.base(three).payableGrowers(), 3);
        Check.same("300, 500 and 200 of 1000: just enough",
                Samples.base(three + "load 3 25 60;").payableGrowers(), 3);
        Check.same("300, 500 and 202 of 1000", Samples.base(three + "load 3 26 60;").payableGrowers(), 2);
        Check.same("300, 800 and 150 of 1000: the second one cannot, the third one could",
                Samples.base(three + "price rose 0 8;").payableGrowers(), 1);
        Check.same("1100, 500 and 550 of 1000: the first one cannot",
                Samples.base(three + "price red 0 11;").payableGrowers(), 0);
    }

    @Sentence(of = "Promise 50", says = "Checks the weights: the weight of all loads minus the content of all tanks")
    static void promise50SoldBottlesCount() {
        WineCooperative x = Samples.huge(20);
        x.bottle(0, 20000);
        Check.same("bottled", x.bottleDifference(), 0);
        x.sell(0, 20000, 1);
        Check.same("sold", x.bottleDifference(), 0);
        x.bottle(1, 1);
        x.sell(1, 1, 1);
        Check.same("bottled and sold", x.bottleDifference(), 0);
    }

    @Sentence(of = "Promise 50", says = ALWAYS_0)
    static void promise50Always0() {
        Check.same("nothing", Samples.none().bottleDifference(), 0);
        Check.same("all full", Samples.wide(20, 12).bottleDifference(), 0);
        WineCooperative x = Samples.base("load 0 60 80;load 0 50 80;bottle 0 20;");
        x.pump(0, 1);
        x.save(0);
        x.sell(0, 20, 1);
        x.undo();
        Check.same("after undo", x.bottleDifference(), 0);
        Check.load(x, Samples.ONE);
        x.restore(0);
        Check.same("after restore", x.bottleDifference(), 0);
    }

    @Sentence(of = "Promise 51", says = "Checks the money: the cash of the text plus all sales minus all payments to growers")
    static void promise51SalesAndPaymentsCount() {
        WineCooperative x = Samples.base("load 0 9 80;load 1 8 80;bottle 0 9;");
        x.sell(0, 9, 9999);
        Check.same("after a sale", x.cashDifference(), 0);
        x.payLoad(0);
        Check.same("after a payment", x.cashDifference(), 0);
        x.payGrower(1);
        x.setPrice(1, 0, 999);
        Check.same("after a price behind a payment", x.cashDifference(), 0);
    }

    @Sentence(of = "Promise 51", says = ALWAYS_0)
    static void promise51Always0() {
        Check.same("nothing", Samples.none().cashDifference(), 0);
        WineCooperative x = Samples.base("load 0 9 80;bottle 0 9;sell 0 1 7;pay ann;");
        Check.same("of a text with sales and payments", x.cashDifference(), 0);
        x.save(0);
        x.sell(0, 8, 9999);
        x.undo();
        Check.same("after undo", x.cashDifference(), 0);
        Check.load(x, Samples.ONE);
        Check.same("after load", x.cashDifference(), 0);
        x.restore(0);
        Check.same("after restore", x.cashDifference(), 0);
        WineCooperative most = Samples.huge(20);
        for (int lot = 0; lot < 5; lot++) {
            most.bottle(lot, 20000);
            most.sell(lot, 20000, 9999);
        }
        Check.same("of the greatest cash", most.cashDifference(), 0);
    }

    @Sentence(of = "Promise 52", says = "Returns the content of all tanks divided by their capacity, both converted to float")
    static void promise52From0To1() {
        Check.same("empty tanks", Samples.huge(0).fullness(), 0.0f);
        Check.same("full tanks", Samples.huge(20).fullness(), 1.0f);
        WineCooperative x = Samples.base("load 0 1 80;load 1 1 80;");
        Check.same("2 of 600", x.fullness(), 2.0f / 600.0f);
        String tiny = "cooperative 1 0;classes 1;variety v;grower g;plot g v 1;tank 1;";
        Check.same("a capacity of 1, empty", Check.loaded(tiny).fullness(), 0.0f);
        Check.same("a capacity of 1, full", Check.loaded(tiny + "load 0 1 7;").fullness(), 1.0f);
        x.bottle(0, 1);
        Check.same("1 of 600", x.fullness(), 1.0f / 600.0f);
    }

    @Sentence(of = "Promise 52", says = "0.0f if there are no tanks.")
    static void promise52Is0WithoutTanks() {
        Check.same("no tanks", Samples.none().fullness(), 0.0f);
    }

    @Sentence(of = "Promise 53", says = "Returns the sum of the products of weight and sugar of all loads")
    static void promise53TheAverageOfAllLoads() {
        Check.same("the greatest", Samples.huge(20).averageSugar(), 250.0);
        WineCooperative x = Samples.base("load 0 2 80;load 1 1 81;bottle 0 2;");
        Check.same("not rounded, bottled or not", x.averageSugar(), 241.0 / 3.0);
        x.payGrower(0);
        x.sell(0, 2, 1);
        Check.same("paid and sold", x.averageSugar(), 241.0 / 3.0);
        WineCooperative least = Samples.huge(0);
        least.deliver(0, 5000, 0);
        Check.same("sugar 0", least.averageSugar(), 0.0);
        Check.same("one kilogram", Samples.base("load 0 1 81;").averageSugar(), 81.0);
    }

    @Sentence(of = "Promise 53", says = "0.0 if there are no loads.")
    static void promise53Is0WithoutLoads() {
        Check.same("no loads", Samples.none().averageSugar(), 0.0);
        WineCooperative x = Samples.huge(0);
        x.deliver(0, 1, 250);
        x.undo();
        Check.same("an undone load", x.averageSugar(), 0.0);
    }
}
