import java.util.function.Supplier;

/** The boundary cases of the promises 54 to 60: the calls that change the state. */
final class ChangeBoundaryTests {
    private static final String A_CHANGE = "This is a change.";
    private static final String NO_PLOT = "Throws `IndexOutOfBoundsException` if there is no such plot";
    private static final String NO_PAIR = "Throws `IndexOutOfBoundsException` if there is no such variety or class";
    private static final String NO_TANK = "Throws `IndexOutOfBoundsException` if there is no such tank";
    private static final String NO_LOT = "Throws `IndexOutOfBoundsException` if there is no such lot";
    private static final String NO_LOAD = "Throws `IndexOutOfBoundsException` if there is no such load";
    private static final String NO_GROWER = "Throws `IndexOutOfBoundsException` if there is no such grower";
    private static final String BOTTLES = "- `bottles`: 1 to 20000";
    private static final String NO_WINE = "Throws `IllegalStateException` if the content is less than the number of bottles";
    private static final String NO_ROOM = "Throws `IllegalStateException` if the first tank is empty";
    private static final Supplier<WineCooperative> CELLAR = Samples.baseWith("load 0 60 81;load 1 50 80;bottle 0 20;");

    private ChangeBoundaryTests() {
    }

    public static void main(String[] args) {
        Sentences.run(ChangeBoundaryTests.class);
    }

    private static void undoable(String what, Edges.Numbered call) {
        WineCooperative x = CELLAR.get();
        call.on(x, 0);
        Check.same("undo of " + what + ": the load of the text is left", x.undo(), 1);
        Check.same("the state after undo of " + what, Fingerprint.of(x), Fingerprint.of(CELLAR.get()));
    }

    @Sentence(of = "Promise 54", says = "A load is delivered.")
    static void promise54TheFirstAndTheLastLoadOfAll() {
        WineCooperative x = Samples.huge(0);
        for (int load = 0; load < 20; load++) {
            x.deliver(load % 2, 5000, 250);
            Check.same("loadCount()", x.loadCount(), load + 1);
            Check.same("plotOfLoad", x.plotOfLoad(load), load % 2);
            Check.same("tankOfLoad", x.tankOfLoad(load), load / 4);
            Check.same("content", x.content(load / 4), 5000 * (load % 4 + 1));
        }
    }

    @Sentence(of = "Promise 54", says = A_CHANGE)
    static void promise54IsAChange() {
        undoable("deliver", (x, plot) -> x.deliver(plot, 5, 80));
    }

    @Sentence(of = "Promise 54", says = "- `weight`: 1 to 5000")
    static void promise54WeightFrom1To5000() {
        WineCooperative x = Samples.huge(0);
        x.deliver(0, 1, 250);
        Check.same("harvested(0)", x.harvested(0), 1);
        x.deliver(0, 5000, 250);
        Check.same("harvested(0)", x.harvested(0), 5001);
    }

    @Sentence(of = "Promise 54", says = "- `sugar`: 0 to 250")
    static void promise54SugarFrom0To250() {
        WineCooperative x = Samples.huge(0);
        Check.same("deliver(0, 1, 250)", x.deliver(0, 1, 250), 0);
        Check.same("meanSugar(0)", x.meanSugar(0), 250);
        Check.same("deliver(0, 1, 0)", x.deliver(0, 1, 0), 1);
        Check.same("meanSugar(0)", x.meanSugar(0), 125);
    }

    @Sentence(of = "Promise 54", says = "Returns the class of the load.")
    static void promise54TheClassUpToTheLimitAndAboveIt() {
        WineCooperative x = Samples.base("");
        Check.same("deliver of all but one", x.deliver(0, 99, 80), 0);
        Check.same("deliver of the last one", x.deliver(0, 1, 80), 0);
        Check.same("deliver of one more", x.deliver(0, 1, 80), 1);
        Check.same("classOfLoad(2)", x.classOfLoad(2), 1);
        Check.same("deliver of lower sugar", x.deliver(1, 1, 79), 1);
    }

    @Sentence(of = "Promise 54", says = NO_PLOT)
    static void promise54ThrowsForNoSuchPlot() {
        Edges.noSuchPlot((x, plot) -> x.deliver(plot, 1, 90));
    }

    @Sentence(of = "Promise 54", says = "Throws `IllegalArgumentException` if weight or sugar is out of range")
    static void promise54ThrowsForAWeightOrSugarOutOfRange() {
        Edges.outOfRange(1, 5000, CELLAR, (x, weight) -> x.deliver(0, weight, 80));
        Edges.outOfRange(0, 250, CELLAR, (x, sugar) -> x.deliver(0, 1, sugar));
        WineCooperative full = Samples.wide(20, 0);
        Check.argument("weight 0 where each load is refused", () -> full.deliver(0, 0, 80));
        Check.argument("sugar 251 where each load is refused", () -> full.deliver(0, 1, 251));
    }

    @Sentence(of = "Promise 54", says = "Throws `IllegalStateException` if it is refused")
    static void promise54ThrowsForTheThreeReasons() {
        Edges.refusedNow("of a 21st load", Samples.baseWith(Samples.times(20, "load 1 1 80;")),
                x -> x.deliver(1, 1, 80));
        Edges.refusedNow("without a class", CELLAR, x -> x.deliver(0, 1, 49));
        Edges.refusedNow("without a class, above the limit", CELLAR, x -> x.deliver(2, 51, 49));
        Edges.refusedNow("without a tank", CELLAR, x -> x.deliver(0, 201, 80));
        Check.same("just enough room", CELLAR.get().deliver(0, 200, 50), 1);
        Check.same("a 20th load", Samples.base(Samples.times(19, "load 1 1 80;")).deliver(1, 1, 80), 0);
    }

    @Sentence(of = "Promise 55", says = "Sets a price.")
    static void promise55ThePriceOfThisPairOnly() {
        WineCooperative x = Samples.wide(8, 0);
        x.setPrice(3, 3, 999);
        x.setPrice(0, 0, 998);
        x.setPrice(2, 0, 997);
        for (int i = 0; i < 16; i++) {
            int due = i == 15 ? 999 : i == 0 ? 998 : i == 8 ? 997 : 0;
            Check.same("price " + i, x.price(i / 4, i % 4), due);
        }
    }

    @Sentence(of = "Promise 55", says = A_CHANGE)
    static void promise55IsAChange() {
        undoable("setPrice", (x, variety) -> x.setPrice(variety, 0, 77));
        undoable("setPrice of the same price", (x, variety) -> x.setPrice(variety, 0, 3));
    }

    @Sentence(of = "Promise 55", says = "- `cents`: 0 to 999")
    static void promise55CentsFrom0To999() {
        WineCooperative x = Samples.base("load 0 100 80;");
        x.setPrice(0, 0, 999);
        Check.same("price(0, 0)", x.price(0, 0), 999);
        Check.same("valueOf(0)", x.valueOf(0), 99900);
        x.setPrice(0, 0, 0);
        Check.same("price(0, 0)", x.price(0, 0), 0);
        Check.same("valueOf(0)", x.valueOf(0), 0);
    }

    @Sentence(of = "Promise 55", says = "Returns the previous price.")
    static void promise55ReturnsThePreviousPrice() {
        WineCooperative x = Samples.base("");
        Check.same("of the text", x.setPrice(0, 0, 999), 3);
        Check.same("the greatest", x.setPrice(0, 0, 0), 999);
        Check.same("the least", x.setPrice(0, 0, 1), 0);
        Check.same("of a pair without a price", x.setPrice(1, 1, 9), 0);
    }

    @Sentence(of = "Promise 55", says = NO_PAIR)
    static void promise55ThrowsForNoSuchVarietyOrClass() {
        Edges.noSuchVarietyOrClass((x, variety, grade) -> x.setPrice(variety, grade, 1));
    }

    @Sentence(of = "Promise 55", says = "Throws `IllegalArgumentException` if cents is out of range")
    static void promise55ThrowsForCentsOutOfRange() {
        Edges.outOfRange(0, 999, CELLAR, (x, cents) -> x.setPrice(0, 0, cents));
    }

    @Sentence(of = "Promise 56", says = "Bottles wine from a tank.")
    static void promise56DownToTheLastBottle() {
        WineCooperative x = Samples.base("load 0 3 80;load 1 4 60;");
        x.bottle(0, 2);
        Check.same("content(0)", x.content(0), 1);
        Check.same("varietyIn(0)", x.varietyIn(0), 0);
        x.bottle(0, 1);
        Check.same("content(0)", x.content(0), 0);
        Check.same("varietyIn(0)", x.varietyIn(0), -1);
        Check.same("content(1)", x.content(1), 4);
        Check.same("the lots", x.unsold(0) + " " + x.unsold(1), "2 1");
    }

    @Sentence(of = "Promise 56", says = A_CHANGE)
    static void promise56IsAChange() {
        undoable("bottle", (x, tank) -> x.bottle(tank, 40));
    }

    @Sentence(of = "Promise 56", says = BOTTLES)
    static void promise56From1To20000Bottles() {
        WineCooperative x = Samples.huge(5);
        x.bottle(0, 20000);
        Check.same("unsold(0)", x.unsold(0), 20000);
        x.bottle(1, 1);
        Check.same("unsold(1)", x.unsold(1), 1);
    }

    @Sentence(of = "Promise 56", says = "Returns the number of the lot.")
    static void promise56TheLotsFrom0To11() {
        WineCooperative x = Samples.wide(20, 0);
        for (int lot = 0; lot < 12; lot++) {
            Check.same("bottle", x.bottle(lot % 5, 1), lot);
        }
    }

    @Sentence(of = "Promise 56", says = NO_TANK)
    static void promise56ThrowsForNoSuchTank() {
        Edges.noSuchTank((x, tank) -> x.bottle(tank, 1));
    }

    @Sentence(of = "Promise 56", says = "Throws `IllegalArgumentException` if bottles is out of range")
    static void promise56ThrowsForBottlesOutOfRange() {
        Edges.outOfRange(1, 20000, CELLAR, (x, bottles) -> x.bottle(0, bottles));
        Check.argument("20001 where there are 12 lots", () -> Samples.wide(20, 12).bottle(0, 20001));
    }

    @Sentence(of = "Promise 56", says = NO_WINE)
    static void promise56ThrowsIfThereIsTooLittleWine() {
        Edges.refusedNow("of one more than the content", CELLAR, x -> x.bottle(0, 41));
        Edges.refusedNow("of the greatest number", CELLAR, x -> x.bottle(0, 20000));
        Edges.refusedNow("of an empty tank", CELLAR, x -> x.bottle(2, 1));
        Check.same("the whole content", CELLAR.get().bottle(0, 40), 1);
    }

    @Sentence(of = "Promise 56", says = "or if there are 12 lots")
    static void promise56ThrowsIfThereAre12Lots() {
        String eleven = "load 0 50 80;" + Samples.times(11, "bottle 0 1;");
        Check.same("the 12th lot", Samples.base(eleven).bottle(0, 39), 11);
        Edges.refusedNow("of a 13th lot", Samples.baseWith(eleven + "bottle 0 1;"), x -> x.bottle(0, 1));
        Edges.refusedNow("of a 13th lot where one is sold", Samples.baseWith(eleven + "bottle 0 1;sell 3 1 1;"),
                x -> x.bottle(0, 1));
    }

    @Sentence(of = "Promise 57", says = "Sells bottles of a lot.")
    static void promise57DownToTheLastBottle() {
        WineCooperative x = Samples.base("load 0 9 80;bottle 0 3;bottle 0 2;");
        x.sell(0, 2, 5);
        Check.same("unsold(0)", x.unsold(0), 1);
        x.sell(0, 1, 5);
        Check.same("unsold(0)", x.unsold(0), 0);
        Check.same("unsold(1)", x.unsold(1), 2);
        Check.same("content(0)", x.content(0), 4);
    }

    @Sentence(of = "Promise 57", says = A_CHANGE)
    static void promise57IsAChange() {
        undoable("sell", (x, lot) -> x.sell(lot, 20, 3));
    }

    @Sentence(of = "Promise 57", says = BOTTLES)
    static void promise57From1To20000Bottles() {
        WineCooperative x = Samples.huge(4);
        x.bottle(0, 20000);
        Check.same("sell(0, 20000, 1)", x.sell(0, 20000, 1), 119999);
        x.undo();
        Check.same("sell(0, 1, 1)", x.sell(0, 1, 1), 100000);
    }

    @Sentence(of = "Promise 57", says = "- `cents`: price of a bottle, 1 to 9999")
    static void promise57From1To9999Cents() {
        Check.same("sell(0, 2, 1)", CELLAR.get().sell(0, 2, 1), 1002);
        Check.same("sell(0, 2, 9999)", CELLAR.get().sell(0, 2, 9999), 20998);
    }

    @Sentence(of = "Promise 57", says = "Returns the cash afterwards.")
    static void promise57TheCashAfterwards() {
        WineCooperative x = Check.loaded("cooperative 9 0;classes 1;variety v;grower g;plot g v 1;tank 9;load 0 2 9;"
                + "bottle 0 2;");
        Check.same("from none", x.sell(0, 1, 1), 1);
        Check.same("and more", x.sell(0, 1, 9999), 10000);
        Check.same("cash()", x.cash(), 10000);
    }

    @Sentence(of = "Promise 57", says = NO_LOT)
    static void promise57ThrowsForNoSuchLot() {
        Edges.noSuchLot((x, lot) -> x.sell(lot, 1, 1));
    }

    @Sentence(of = "Promise 57", says = "Throws `IllegalArgumentException` if bottles or cents is out of range")
    static void promise57ThrowsForBottlesOrCentsOutOfRange() {
        Edges.outOfRange(1, 20000, CELLAR, (x, bottles) -> x.sell(0, bottles, 1));
        Edges.outOfRange(1, 9999, CELLAR, (x, cents) -> x.sell(0, 1, cents));
        Check.argument("cents 0 where there are too few bottles", () -> CELLAR.get().sell(0, 21, 0));
    }

    @Sentence(of = "Promise 57", says = "Throws `IllegalStateException` if fewer bottles are not sold")
    static void promise57ThrowsIfThereAreTooFewBottles() {
        Edges.refusedNow("of one more than the lot", CELLAR, x -> x.sell(0, 21, 1));
        Edges.refusedNow("of the greatest number", CELLAR, x -> x.sell(0, 20000, 9999));
        Edges.refusedNow("of a lot that is sold", Samples.baseWith("load 0 9 80;bottle 0 3;sell 0 3 1;"),
                x -> x.sell(0, 1, 1));
        Check.same("the whole lot", CELLAR.get().sell(0, 20, 1), 1020);
    }

    /** 20 loads of 5000 bottles for 9999 cents each and a cash of 99999: no run of calls comes to more. */
    @Sentence(of = "Promise 57", says = "or if the cash would be greater than 1000000000")
    static void promise57TheGreatestCashOfAnyRunIsAllowed() {
        WineCooperative x = Samples.huge(20);
        for (int lot = 0; lot < 5; lot++) {
            x.bottle(lot, 20000);
            x.sell(lot, 20000 - 1, 9999);
        }
        for (int lot = 0; lot < 4; lot++) {
            x.sell(lot, 1, 9999);
        }
        Check.same("the last sale", x.sell(4, 1, 9999), 999999999);
        Check.state("no bottle is left", () -> x.sell(4, 1, 1));
    }

    /** No run of calls comes to this limit, so the cash is put in by force. */
    @Sentence(of = "Promise 57", says = "or if the cash would be greater than 1000000000")
    static void promise57ThrowsIfTheCashWouldBeTooMuch() {
        Supplier<WineCooperative> rich = () -> Samples.withCash(CELLAR.get(), 999999940);
        Check.same("just the limit, by cents", rich.get().sell(0, 1, 60), 1000000000);
        Edges.refusedNow("of a cent more than the limit", rich, x -> x.sell(0, 1, 61));
        Check.same("just the limit, by bottles", rich.get().sell(0, 20, 3), 1000000000);
        Edges.refusedNow("of a bottle more than the limit", rich, x -> x.sell(0, 16, 4));
        Supplier<WineCooperative> richest = () -> Samples.withCash(CELLAR.get(), 1000000000);
        Edges.refusedNow("at the limit", richest, x -> x.sell(0, 1, 1));
        Edges.refusedNow("of all bottles at the limit", richest, x -> x.sell(0, 20, 9999));
    }

    @Sentence(of = "Promise 58", says = "Pays a load.")
    static void promise58PaysThisLoadOnly() {
        WineCooperative x = Samples.base("load 1 4 80;load 1 5 80;load 1 6 80;");
        x.payLoad(1);
        Check.same("isPaid(0)", x.isPaid(0), false);
        Check.same("isPaid(1)", x.isPaid(1), true);
        Check.same("isPaid(2)", x.isPaid(2), false);
        Check.same("cash()", x.cash(), 975);
        Check.same("paidTo(1)", x.paidTo(1), 25);
    }

    @Sentence(of = "Promise 58", says = A_CHANGE)
    static void promise58IsAChange() {
        undoable("payLoad", (x, load) -> x.payLoad(load));
    }

    @Sentence(of = "Promise 58", says = "Returns what was paid.")
    static void promise58ReturnsWhatWasPaid() {
        WineCooperative x = Samples.base("load 1 200 80;load 1 1 60;");
        Check.same("the whole cash", x.payLoad(0), 1000);
        Check.same("a load of no value, with no cash", x.payLoad(1), 0);
    }

    @Sentence(of = "Promise 58", says = NO_LOAD)
    static void promise58ThrowsForNoSuchLoad() {
        Edges.noSuchLoad(WineCooperative::payLoad);
    }

    @Sentence(of = "Promise 58", says = "Throws `IllegalStateException` if it is paid")
    static void promise58ThrowsIfItIsPaid() {
        Edges.refusedNow("of a paid load", Samples.baseWith("load 0 4 80;pay ann;load 0 4 80;"), x -> x.payLoad(0));
        Edges.refusedNow("of a paid load of no value", Samples.baseWith("load 1 4 60;pay bert;"), x -> x.payLoad(0));
    }

    @Sentence(of = "Promise 58", says = "or if its value is greater than the cash")
    static void promise58ThrowsIfTheCashIsTooLittle() {
        Check.same("just enough", Samples.base("load 1 200 80;").payLoad(0), 1000);
        Edges.refusedNow("of 1005 with 1000", Samples.baseWith("price rose 1 5;load 1 201 80;"), x -> x.payLoad(0));
        Edges.refusedNow("of 1001 with 1000", Samples.baseWith("price rose 0 11;load 1 91 80;"), x -> x.payLoad(0));
        Check.same("the cash counts, not what is owed to all",
                Samples.base("load 1 200 80;load 0 1 80;").payLoad(0), 1000);
    }

    @Sentence(of = "Promise 59", says = "Pays all loads of a grower that are not paid.")
    static void promise59PaysAllOfThisGrowerOnly() {
        WineCooperative x = Samples.base("load 1 4 80;load 0 5 80;load 2 6 80;load 1 7 60;");
        x.payLoad(0);
        x.payGrower(1);
        Check.same("isPaid(1) of another grower", x.isPaid(1), false);
        Check.same("isPaid(2) from another plot", x.isPaid(2), true);
        Check.same("isPaid(3) of no value", x.isPaid(3), true);
        Check.same("cash()", x.cash(), 1000 - 20 - 18);
        Check.same("owed(1)", x.owed(1), 0);
    }

    @Sentence(of = "Promise 59", says = A_CHANGE)
    static void promise59IsAChange() {
        undoable("payGrower", (x, grower) -> x.payGrower(grower));
    }

    @Sentence(of = "Promise 59", says = "Returns what was paid.")
    static void promise59ReturnsWhatWasPaid() {
        Check.same("the whole cash", Samples.base("load 1 100 80;load 1 100 80;").payGrower(1), 1000);
        Check.same("loads of no value", Samples.base("load 1 1 60;load 1 1 60;").payGrower(1), 0);
        WineCooperative x = Samples.base("load 1 4 80;load 1 5 80;");
        x.payLoad(0);
        Check.same("only what was not paid", x.payGrower(1), 25);
    }

    @Sentence(of = "Promise 59", says = NO_GROWER)
    static void promise59ThrowsForNoSuchGrower() {
        Edges.noSuchGrower(WineCooperative::payGrower);
    }

    @Sentence(of = "Promise 59", says = "Throws `IllegalStateException` if there is no such load")
    static void promise59ThrowsIfThereIsNoLoadToPay() {
        Edges.refusedNow("without loads", CELLAR, x -> x.payGrower(2));
        Edges.refusedNow("with paid loads", Samples.baseWith("load 0 4 80;pay ann;load 1 1 80;"),
                x -> x.payGrower(0));
    }

    @Sentence(of = "Promise 59", says = "or if their value is greater than the cash")
    static void promise59ThrowsIfTheCashIsTooLittle() {
        String loads = "load 1 100 80;load 1 90 80;load 2 16 80;";
        Check.same("950 and 48 of 1000", Samples.base(loads).payGrower(1), 998);
        Check.same("950, 48 and 2 of 1000", Samples.base(loads + "load 2 1 60;").payGrower(1), 1000);
        Edges.refusedNow("of 950, 48 and 3 with 1000", Samples.baseWith(loads + "load 2 1 80;"), x -> x.payGrower(1));
        Edges.refusedNow("where the first loads could be paid", Samples.baseWith(loads + "load 2 30 80;"),
                x -> x.payGrower(1));
        Check.same("no value and no cash", Check.loaded("cooperative 1 0;classes 1;variety v;grower g;plot g v 9;"
                + "tank 9;load 0 9 9;").payGrower(0), 0);
    }

    @Sentence(of = "Promise 60", says = "Pumps the whole content of a tank into another one")
    static void promise60TheWholeContentIntoTheSameVarietyOrAnEmptyTank() {
        WineCooperative x = Samples.base("load 0 60 80;load 0 50 80;");
        x.pump(0, 1);
        Check.same("the same variety", Check.output(x), "0 110:red 0");
        x.pump(1, 2);
        Check.same("an empty tank", Check.output(x), "0 0 110:red");
        Check.same("varietyIn(1)", x.varietyIn(1), -1);
        WineCooperative huge = Samples.huge(4);
        huge.pump(0, 4);
        Check.same("a full tank", huge.content(4), 20000);
        Check.same("a full tank", huge.content(0), 0);
    }

    @Sentence(of = "Promise 60", says = "The sugar sum moves, too.")
    static void promise60TheSugarSumMovesWithItsRemainder() {
        WineCooperative x = Samples.base("load 0 2 80;load 0 1 82;load 0 298 80;bottle 1 297;");
        Check.same("the tanks", Check.output(x), "3:red 1:red 0");
        x.pump(0, 1);
        Check.same("242 and 80 by 4", x.meanSugar(1), 80);
        Check.same("meanSugar(0)", x.meanSugar(0), 0);
        x.deliver(2, 1, 83);
        Check.same("322 and 83 by 5", x.meanSugar(1), 81);
        x.deliver(1, 1, 60);
        Check.same("nothing is left behind", x.meanSugar(0), 60);
    }

    @Sentence(of = "Promise 60", says = A_CHANGE)
    static void promise60IsAChange() {
        undoable("pump", (x, from) -> x.pump(from, 2));
    }

    @Sentence(of = "Promise 60", says = "Returns the content of the other tank afterwards.")
    static void promise60ReturnsTheContentOfTheOtherTank() {
        WineCooperative x = Samples.base("load 0 99 80;load 0 50 80;bottle 0 98;");
        Check.same("one bottle more", x.pump(0, 1), 51);
        Check.same("an empty tank", x.pump(1, 0), 51);
        Check.same("the greatest content", Samples.huge(4).pump(0, 1), 20000);
    }

    @Sentence(of = "Promise 60", says = NO_TANK)
    static void promise60ThrowsForNoSuchTank() {
        for (int wrong : new int[] {Samples.MIN, -1, 5, 6, Samples.MAX}) {
            WineCooperative five = Samples.huge(4);
            Check.index("the first one is none of five", () -> five.pump(wrong, 4));
            Check.index("the second one is none of five", () -> five.pump(0, wrong));
            Check.index("both are none of five", () -> five.pump(wrong, wrong));
        }
        Check.same("the last one of five", Samples.huge(4).pump(0, 4), 20000);
        Check.index("the second one of a single tank", () -> Samples.one().pump(0, 1));
        Check.index("the first one of no tanks", () -> Samples.none().pump(0, 1));
        Check.index("the same one of no tanks", () -> Samples.none().pump(0, 0));
    }

    @Sentence(of = "Promise 60", says = "Throws `IllegalArgumentException` if both are the same")
    static void promise60ThrowsForTheSameTank() {
        for (int tank = 0; tank < 3; tank++) {
            int same = tank;
            Edges.refused(IllegalArgumentException.class, "of tank " + tank, CELLAR, x -> x.pump(same, same));
        }
        Check.argument("the last tank of five", () -> Samples.wide(20, 0).pump(4, 4));
    }

    @Sentence(of = "Promise 60", says = NO_ROOM)
    static void promise60ThrowsIfTheFirstTankIsEmpty() {
        Edges.refusedNow("of an empty tank", CELLAR, x -> x.pump(2, 0));
        Edges.refusedNow("of an empty tank into an empty one", Samples.baseWith(""), x -> x.pump(0, 1));
        Edges.refusedNow("of a tank that was bottled", Samples.baseWith("load 0 9 80;bottle 0 9;"), x -> x.pump(0, 1));
    }

    @Sentence(of = "Promise 60", says = "or if the other one has another variety")
    static void promise60ThrowsIfTheOtherTankHasAnotherVariety() {
        Edges.refusedNow("into another variety", CELLAR, x -> x.pump(0, 1));
        WineCooperative x = CELLAR.get();
        x.bottle(1, 49);
        Check.state("one bottle of another variety", () -> x.pump(0, 1));
        x.bottle(1, 1);
        Check.same("none of it", x.pump(0, 1), 40);
    }

    @Sentence(of = "Promise 60", says = "or not enough room")
    static void promise60ThrowsIfTheOtherTankHasNotEnoughRoom() {
        Edges.refusedNow("of 101 into an empty tank of 100", Samples.baseWith("load 0 101 80;"), x -> x.pump(1, 0));
        Check.same("100 into an empty tank of 100", Samples.base("load 0 101 80;bottle 1 1;").pump(1, 0), 100);
        String half = "load 0 99 80;load 0 50 80;bottle 0 49;";
        Check.same("50 beside 50 in a tank of 100", Samples.base(half).pump(1, 0), 100);
        Edges.refusedNow("of 51 beside 50 in a tank of 100", Samples.baseWith("load 0 99 80;load 0 51 80;bottle 0 49;"),
                x -> x.pump(1, 0));
        Edges.refusedNow("into a full tank", Samples.baseWith("load 0 100 80;load 0 1 80;"), x -> x.pump(1, 0));
    }
}
