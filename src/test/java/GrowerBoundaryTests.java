/** The boundary cases of the promises 19 to 33: growers, plots and loads. */
final class GrowerBoundaryTests {
    private static final String NO_GROWER = "Throws `IndexOutOfBoundsException` if there is no such grower";
    private static final String NO_PLOT = "Throws `IndexOutOfBoundsException` if there is no such plot";
    private static final String NO_LOAD = "Throws `IndexOutOfBoundsException` if there is no such load";

    private GrowerBoundaryTests() {
    }

    public static void main(String[] args) {
        Sentences.run(GrowerBoundaryTests.class);
    }

    @Sentence(of = "Promise 19", says = "Returns the number of plots of the grower.")
    static void promise19From0To8Plots() {
        WineCooperative x = Check.loaded("cooperative 1 0;classes 1;variety v;grower a;grower b;"
                + Samples.times(8, "plot b v 1;"));
        Check.same("plotsOf(0)", x.plotsOf(0), 0);
        Check.same("plotsOf(1)", x.plotsOf(1), 8);
    }

    @Sentence(of = "Promise 19", says = NO_GROWER)
    static void promise19ThrowsForNoSuchGrower() {
        Edges.noSuchGrower(WineCooperative::plotsOf);
    }

    @Sentence(of = "Promise 20", says = "Returns the weight of all loads from the plots of the grower.")
    static void promise20TheWeightFrom0To100000() {
        Check.same("no loads", Samples.huge(0).weightOf(0), 0);
        Check.same("the greatest weight", Samples.huge(20).weightOf(0), 100000);
        WineCooperative x = Samples.base("load 1 4 80;load 2 3 80;load 1 1 80;");
        x.payLoad(0);
        Check.same("paid or not, from all plots", x.weightOf(1), 8);
        Check.same("no loads from its plots", x.weightOf(0), 0);
        Check.same("no plots", x.weightOf(2), 0);
    }

    @Sentence(of = "Promise 20", says = NO_GROWER)
    static void promise20ThrowsForNoSuchGrower() {
        Edges.noSuchGrower(WineCooperative::weightOf);
    }

    @Sentence(of = "Promise 21", says = "Returns the value of all loads of the grower that are not paid.")
    static void promise21TheValueOfLoadsThatAreNotPaid() {
        WineCooperative most = Samples.huge(20);
        Check.same("owed(0) at price 0", most.owed(0), 0);
        most.setPrice(0, 0, 999);
        most.setPrice(0, 1, 999);
        Check.same("the greatest sum", most.owed(0), 99900000);
        WineCooperative x = Samples.base("load 1 4 80;load 2 3 80;");
        Check.same("owed(1)", x.owed(1), 29);
        x.payLoad(0);
        Check.same("owed(1) less a paid load", x.owed(1), 9);
        x.payLoad(1);
        Check.same("owed(1) if all is paid", x.owed(1), 0);
        Check.same("owed(2) without loads", x.owed(2), 0);
    }

    @Sentence(of = "Promise 21", says = NO_GROWER)
    static void promise21ThrowsForNoSuchGrower() {
        Edges.noSuchGrower(WineCooperative::owed);
    }

    @Sentence(of = "Promise 22", says = "Returns what was paid to the grower.")
    static void promise22WhatWasPaid() {
        WineCooperative x = Samples.base("load 1 4 80;load 2 3 80;load 1 1 60;");
        Check.same("paidTo(1) of nothing", x.paidTo(1), 0);
        x.payLoad(2);
        Check.same("paidTo(1) of a load of no value", x.paidTo(1), 0);
        x.payLoad(0);
        x.setPrice(1, 0, 999);
        Check.same("paidTo(1) whatever the price is now", x.paidTo(1), 20);
        x.payGrower(1);
        Check.same("paidTo(1) of all loads", x.paidTo(1), 29);
        Check.same("paidTo(0)", x.paidTo(0), 0);
        x.undo();
        Check.same("paidTo(1) after undo", x.paidTo(1), 20);
        WineCooperative all = Check.loaded("cooperative 9 99999;classes 1;variety v;grower g;plot g v 1;tank 9;"
                + "price v 0 999;load 0 9 9;pay g;");
        Check.same("paidTo(0) of the text", all.paidTo(0), 8991);
    }

    @Sentence(of = "Promise 22", says = NO_GROWER)
    static void promise22ThrowsForNoSuchGrower() {
        Edges.noSuchGrower(WineCooperative::paidTo);
    }

    @Sentence(of = "Promise 23", says = "Returns the number of varieties of which the grower has delivered at least one load.")
    static void promise23From0To4Varieties() {
        String text = "cooperative 9 0;classes 1;variety a;variety b;variety c;variety d;grower g;grower h;"
                + "plot g a 1;plot g b 1;plot g c 1;plot g d 1;plot g d 1;plot h a 1;" + Samples.times(4, "tank 99;");
        WineCooperative x = Check.loaded(text);
        Check.same("varietiesOf(0) without loads", x.varietiesOf(0), 0);
        for (int plot = 0; plot < 4; plot++) {
            x.deliver(plot, 1, 1);
            Check.same("varietiesOf(0)", x.varietiesOf(0), plot + 1);
        }
        x.deliver(3, 1, 1);
        x.deliver(4, 1, 1);
        Check.same("varietiesOf(0) of more loads and plots", x.varietiesOf(0), 4);
        Check.same("varietiesOf(1) of another grower's loads", x.varietiesOf(1), 0);
    }

    @Sentence(of = "Promise 23", says = NO_GROWER)
    static void promise23ThrowsForNoSuchGrower() {
        Edges.noSuchGrower(WineCooperative::varietiesOf);
    }

    @Sentence(of = "Promise 24", says = "Returns the grower with the greatest weight of all loads")
    static void promise24TheGreatestWeight() {
        Check.same("by one kilogram", Samples.base("load 0 9 80;load 1 8 80;load 2 2 80;").greatestGrower(), 1);
        WineCooperative last = Samples.base("plot cleo red 9;load 0 9 80;load 1 9 80;load 3 10 80;");
        Check.same("the last grower", last.greatestGrower(), 2);
        last.payGrower(2);
        Check.same("the last grower, when paid", last.greatestGrower(), 2);
    }

    @Sentence(of = "Promise 24", says = "among several the one with the smallest number")
    static void promise24AmongSeveralTheSmallestNumber() {
        Check.same("as much", Samples.base("load 1 9 80;load 0 9 80;").greatestGrower(), 0);
        Check.same("as much, of three",
                Samples.base("plot cleo red 9;load 3 9 80;load 1 9 80;load 0 8 80;").greatestGrower(), 1);
        Check.same("no loads", Samples.base("").greatestGrower(), 0);
    }

    @Sentence(of = "Promise 24", says = "-1 if there are no growers.")
    static void promise24Minus1WithoutGrowers() {
        Check.same("no growers", Samples.none().greatestGrower(), -1);
        Check.same("one grower without plots", Check.loaded(Samples.NONE + "grower g;").greatestGrower(), 0);
    }

    @Sentence(of = "Promise 25", says = "Returns its yield limit.")
    static void promise25TheLimitFrom1To19800() {
        Check.same("the least", Check.loaded("cooperative 1 0;classes 1;variety v;grower g;plot g v 1;").yieldLimit(0), 1);
        Check.same("the greatest", Samples.huge(5).yieldLimit(0), 19800);
    }

    @Sentence(of = "Promise 25", says = NO_PLOT)
    static void promise25ThrowsForNoSuchPlot() {
        Edges.noSuchPlot(WineCooperative::yieldLimit);
    }

    @Sentence(of = "Promise 26", says = "Returns the weight of all loads from the plot.")
    static void promise26TheWeightFrom0To100000() {
        Check.same("no loads", Samples.huge(0).harvested(0), 0);
        Check.same("the greatest weight, above the limit", Samples.huge(20).harvested(0), 100000);
        Check.same("another plot of the grower", Samples.huge(20).harvested(1), 0);
    }

    @Sentence(of = "Promise 26", says = NO_PLOT)
    static void promise26ThrowsForNoSuchPlot() {
        Edges.noSuchPlot(WineCooperative::harvested);
    }

    @Sentence(of = "Promise 27", says = "Returns the greatest weight of a load from the plot that would not exceed its yield limit")
    static void promise27TheGreatestWeightOfALoadIs5000() {
        WineCooperative x = Samples.huge(0);
        Check.same("yieldLeft(0) of 19800", x.yieldLeft(0), 5000);
        x.deliver(0, 5000, 250);
        x.deliver(0, 5000, 250);
        x.deliver(0, 4800, 250);
        Check.same("yieldLeft(0) of 5000", x.yieldLeft(0), 5000);
        x.deliver(0, 1, 250);
        Check.same("yieldLeft(0) of 4999", x.yieldLeft(0), 4999);
        Check.same("yieldLeft(1) of another plot", x.yieldLeft(1), 5000);
        Check.same("deliver of what is left", x.deliver(0, 4999, 250), 0);
    }

    @Sentence(of = "Promise 27", says = "Returns the greatest weight of a load from the plot that would not exceed its yield limit")
    static void promise27WhateverTheTanksHold() {
        Check.same("more than there is room for", Check.loaded(
                "cooperative 9 0;classes 1;variety v;grower g;plot g v 9;tank 5;").yieldLeft(0), 81);
        Check.same("20 loads", Samples.base(Samples.times(20, "load 1 1 80;")).yieldLeft(0), 100);
    }

    @Sentence(of = "Promise 27", says = "0 if there is none.")
    static void promise27Is0AtTheLimitAndAboveIt() {
        WineCooperative x = Samples.base("load 2 49 80;");
        Check.same("yieldLeft(2) of 1", x.yieldLeft(2), 1);
        x.deliver(2, 1, 80);
        Check.same("yieldLeft(2) at the limit", x.yieldLeft(2), 0);
        x.deliver(2, 1, 80);
        Check.same("yieldLeft(2) above the limit", x.yieldLeft(2), 0);
    }

    @Sentence(of = "Promise 27", says = NO_PLOT)
    static void promise27ThrowsForNoSuchPlot() {
        Edges.noSuchPlot(WineCooperative::yieldLeft);
    }

    @Sentence(of = "Promise 28", says = "Returns the plot from which it came.")
    static void promise28ThePlotOfTheFirstAndTheLastLoad() {
        WineCooperative x = Samples.wide(20, 0);
        Check.same("plotOfLoad(0)", x.plotOfLoad(0), 0);
        Check.same("plotOfLoad(15), of the last plot", x.plotOfLoad(15), 7);
        Check.same("plotOfLoad(19)", x.plotOfLoad(19), 3);
    }

    @Sentence(of = "Promise 28", says = NO_LOAD)
    static void promise28ThrowsForNoSuchLoad() {
        Edges.noSuchLoad(WineCooperative::plotOfLoad);
    }

    @Sentence(of = "Promise 29", says = "Returns its class.")
    static void promise29TheClassUpToTheLimitAndAboveIt() {
        WineCooperative x = Samples.base("load 2 50 80;load 2 1 80;load 0 1 50;");
        Check.same("classOfLoad(0)", x.classOfLoad(0), 0);
        Check.same("classOfLoad(1)", x.classOfLoad(1), 1);
        Check.same("classOfLoad(2)", x.classOfLoad(2), 1);
        Check.same("the last of four classes", Check.loaded(Samples.WIDE + "load 0 9 45;").classOfLoad(0), 3);
    }

    @Sentence(of = "Promise 29", says = NO_LOAD)
    static void promise29ThrowsForNoSuchLoad() {
        Edges.noSuchLoad(WineCooperative::classOfLoad);
    }

    @Sentence(of = "Promise 30", says = "Returns the tank into which it was put.")
    static void promise30TheTankAtThatTime() {
        WineCooperative x = Samples.base("load 0 100 80;load 0 1 80;");
        Check.same("tankOfLoad(0)", x.tankOfLoad(0), 0);
        Check.same("tankOfLoad(1) beside a full tank", x.tankOfLoad(1), 1);
        x.pump(1, 2);
        Check.same("tankOfLoad(1) after it was pumped", x.tankOfLoad(1), 1);
        x.bottle(0, 100);
        Check.same("tankOfLoad(0) after it was bottled", x.tankOfLoad(0), 0);
        Check.same("the last tank", Samples.wide(9, 0).tankOfLoad(8), 4);
    }

    @Sentence(of = "Promise 30", says = NO_LOAD)
    static void promise30ThrowsForNoSuchLoad() {
        Edges.noSuchLoad(WineCooperative::tankOfLoad);
    }

    @Sentence(of = "Promise 31", says = "Returns its value.")
    static void promise31TheValueFrom0To4995000() {
        WineCooperative x = Samples.huge(1);
        Check.same("the least", x.valueOf(0), 0);
        x.setPrice(0, 0, 999);
        Check.same("the greatest", x.valueOf(0), 4995000);
        x.setPrice(0, 0, 0);
        x.payLoad(0);
        x.setPrice(0, 0, 999);
        Check.same("a load that was paid with nothing", x.valueOf(0), 0);
    }

    @Sentence(of = "Promise 31", says = NO_LOAD)
    static void promise31ThrowsForNoSuchLoad() {
        Edges.noSuchLoad(WineCooperative::valueOf);
    }

    @Sentence(of = "Promise 32", says = "Returns whether it is paid.")
    static void promise32PaidEvenWithNothing() {
        WineCooperative x = Samples.base("load 1 4 80;load 1 1 60;load 1 2 80;");
        x.payLoad(1);
        Check.same("isPaid(1), of no value", x.isPaid(1), true);
        Check.same("isPaid(0)", x.isPaid(0), false);
        x.payGrower(1);
        Check.same("isPaid(0)", x.isPaid(0), true);
        Check.same("isPaid(2)", x.isPaid(2), true);
        x.undo();
        Check.same("isPaid(2) after undo", x.isPaid(2), false);
        x.undo();
        Check.same("isPaid(1) after undo", x.isPaid(1), false);
        x.deliver(1, 1, 80);
        Check.same("isPaid(3) of a new load", x.isPaid(3), false);
    }

    @Sentence(of = "Promise 32", says = NO_LOAD)
    static void promise32ThrowsForNoSuchLoad() {
        Edges.noSuchLoad(WineCooperative::isPaid);
    }

    @Sentence(of = "Promise 33", says = "Returns whether its class is not its class by sugar.")
    static void promise33LoweredAboveTheLimitOnly() {
        WineCooperative x = Samples.base("load 2 50 80;load 2 1 80;load 2 1 79;");
        Check.same("isLowered(0) at the limit", x.isLowered(0), false);
        Check.same("isLowered(1) above it", x.isLowered(1), true);
        Check.same("isLowered(2) above it, of the last class by sugar", x.isLowered(2), false);
        WineCooperative one = Samples.one();
        one.deliver(0, 50, 60);
        Check.same("isLowered(1) above the limit of a single class", one.isLowered(1), false);
    }

    @Sentence(of = "Promise 33", says = NO_LOAD)
    static void promise33ThrowsForNoSuchLoad() {
        Edges.noSuchLoad(WineCooperative::isLowered);
    }
}
