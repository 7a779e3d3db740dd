/** The boundary cases of "Terms" but for the setup text and undo: how many, how much, full and empty. */
final class TermsBoundaryTests {
    private static final String NONE = Samples.NONE;

    private TermsBoundaryTests() {
    }

    public static void main(String[] args) {
        Sentences.run(TermsBoundaryTests.class);
    }

    @Sentence(of = "Terms", says = "There are at most 4 varieties")
    static void termsAtMost4Varieties() {
        String four = NONE + "variety a;variety b;variety c;variety d;";
        Check.same("varietyCount()", Check.loaded(four).varietyCount(), 4);
        Setups.error(5, four + "^variety e;");
    }

    @Sentence(of = "Terms", says = "There are at most 4 varieties")
    static void termsVarietiesAreNumberedFrom0InTheOrderOfTheText() {
        WineCooperative x = Check.loaded(NONE + "variety d;variety b;variety c;variety a;"
                + "price a 0 1;price b 0 2;price c 0 3;price d 0 4;");
        Check.same("price(0, 0)", x.price(0, 0), 4);
        Check.same("price(1, 0)", x.price(1, 0), 2);
        Check.same("price(2, 0)", x.price(2, 0), 3);
        Check.same("price(3, 0)", x.price(3, 0), 1);
        Check.index("price(4, 0)", () -> x.price(4, 0));
    }

    @Sentence(of = "Terms", says = "There are at most 4 varieties")
    static void termsVarietyNamesOf1To4Letters() {
        WineCooperative x = Check.loaded(NONE + "variety z;variety azby;grower g;plot g z 9;plot g azby 9;"
                + "tank 9;tank 9;load 0 1 60;load 1 1 60;");
        Check.same("the names", Check.output(x), "1:z 1:azby");
        Setups.error(1, NONE + "variety ^;");
        Setups.error(2, NONE + "variety ^azbyc;");
    }

    @Sentence(of = "Terms", says = "There are 1 to 4 classes")
    static void termsClassesFrom1To4NumberedFrom0() {
        Setups.error(1, "cooperative 1 0;classes ^;");
        WineCooperative one = Check.loaded("cooperative 1 0;classes 60;");
        Check.same("classCount()", one.classCount(), 1);
        Check.same("classBySugar(60)", one.classBySugar(60), 0);
        WineCooperative four = Check.loaded("cooperative 1 0;classes 90 75 60 45;");
        Check.same("classCount()", four.classCount(), 4);
        Check.same("classBySugar(250): the best one is 0", four.classBySugar(250), 0);
        Check.same("classBySugar(45): the last one is 3", four.classBySugar(45), 3);
        Setups.error(5, "cooperative 1 0;classes 90 75 60 45 ^30;");
    }

    @Sentence(of = "Terms", says = "A class has a lowest sugar (0 to 200)")
    static void termsLowestSugarFrom0To200() {
        Check.same("lowest sugar 200", Check.loaded("cooperative 1 0;classes 200;").classBySugar(200), 0);
        Check.same("lowest sugar 0", Check.loaded("cooperative 1 0;classes 0;").classBySugar(0), 0);
        Setups.error(2, "cooperative 1 0;classes ^201;");
        Setups.error(2, "cooperative 1 0;classes 200 ^201;");
    }

    @Sentence(of = "Terms", says = "A class has a lowest sugar (0 to 200)")
    static void termsLowestSugarDecreasesStrictly() {
        Setups.good(0, "cooperative 1 0;classes 200 199 1 0;");
        Setups.error(3, "cooperative 1 0;classes 60 ^60;");
        Setups.error(3, "cooperative 1 0;classes 60 ^61;");
        Setups.error(3, "cooperative 1 0;classes 90 60 ^75;");
        Setups.error(3, "cooperative 1 0;classes 90 60 1 ^1;");
        Setups.error(3, "cooperative 1 0;classes 0 ^0;");
    }

    @Sentence(of = "Terms", says = "The class by sugar of a load is the first class")
    static void termsClassBySugarFromTheLowestSugarOn() {
        WineCooperative x = Check.loaded("cooperative 1 0;classes 90 75 60 45;");
        int[] sugars = {250, 91, 90, 89, 76, 75, 74, 61, 60, 59, 46, 45};
        int[] due = {0, 0, 0, 1, 1, 1, 2, 2, 2, 3, 3, 3};
        for (int i = 0; i < due.length; i++) {
            Check.same("classBySugar(" + sugars[i] + ")", x.classBySugar(sugars[i]), due[i]);
        }
    }

    @Sentence(of = "Terms", says = "There is none if the sugar is less than the lowest sugar of the last class.")
    static void termsNoClassBelowTheLastLowestSugar() {
        WineCooperative x = Check.loaded(NONE + "variety v;grower g;plot g v 1;tank 9;");
        Check.same("classBySugar(60)", x.classBySugar(60), 0);
        Check.same("refusal of sugar 60", x.refusal(0, 1, 60), 0);
        Check.same("classBySugar(59)", x.classBySugar(59), -1);
        Check.same("refusal of sugar 59", x.refusal(0, 1, 59), 2);
        Check.same("classBySugar(0)", x.classBySugar(0), -1);
        WineCooperative four = Check.loaded("cooperative 1 0;classes 90 75 60 45;");
        Check.same("classBySugar(45) of four classes", four.classBySugar(45), 3);
        Check.same("classBySugar(44) of four classes", four.classBySugar(44), -1);
    }

    @Sentence(of = "Terms", says = "there is a price in cents per kilogram (0 to 999), 0 at first.")
    static void termsPriceFrom0To999() {
        String text = NONE + "variety v;price v 0 7;";
        Check.same("price 999", Check.loaded(text + "price v 0 999;").price(0, 0), 999);
        Check.same("price 0", Check.loaded(text + "price v 0 0;").price(0, 0), 0);
        Setups.error(2, text + "price v 0 ^1000;");
    }

    @Sentence(of = "Terms", says = "there is a price in cents per kilogram (0 to 999), 0 at first.")
    static void termsEachPriceIs0AtFirst() {
        WineCooperative x = Check.loaded("cooperative 1 0;classes 9 8 7 6;variety a;variety b;variety c;variety d;"
                + "price a 0 1;price a 1 2;price a 2 3;price a 3 4;price b 0 5;price b 1 6;price b 2 7;price b 3 8;"
                + "price c 0 1;price c 1 2;price c 2 3;price c 3 4;price d 0 5;price d 1 6;price d 2 7;price d 3 8;");
        Check.same("price(3, 3) of the first text", x.price(3, 3), 8);
        Check.load(x, "cooperative 1 0;classes 9 8 7 6;variety a;variety b;variety c;variety d;");
        for (int i = 0; i < 16; i++) {
            Check.same("price " + i + " of the second text", x.price(i / 4, i % 4), 0);
        }
    }

    @Sentence(of = "Terms", says = "There are at most 6 growers")
    static void termsAtMost6Growers() {
        String six = NONE + "grower a;grower b;grower c;grower d;grower e;grower f;";
        Check.same("growerCount()", Check.loaded(six).growerCount(), 6);
        Setups.error(5, six + "^grower g;");
    }

    @Sentence(of = "Terms", says = "There are at most 6 growers")
    static void termsGrowersAreNumberedFrom0() {
        WineCooperative x = Check.loaded(NONE + "variety v;grower f;grower b;grower c;grower a;grower d;grower e;"
                + "plot e v 1;plot f v 1;plot f v 1;");
        int[] due = {2, 0, 0, 0, 0, 1};
        for (int grower = 0; grower < 6; grower++) {
            Check.same("plotsOf(" + grower + ")", x.plotsOf(grower), due[grower]);
        }
        Check.index("plotsOf(6)", () -> x.plotsOf(6));
    }

    @Sentence(of = "Terms", says = "There are at most 6 growers")
    static void termsGrowerNamesOf1To4Letters() {
        WineCooperative x = Check.loaded(NONE + "variety v;grower z;grower azby;plot azby v 1;plot azby v 1;plot z v 1;");
        Check.same("plotsOf(0)", x.plotsOf(0), 1);
        Check.same("plotsOf(1)", x.plotsOf(1), 2);
        Setups.error(1, NONE + "grower ^;");
        Setups.error(2, NONE + "grower ^azbyc;");
    }

    @Sentence(of = "Terms", says = "No two varieties or growers have the same name.")
    static void termsNoTwoHaveTheSameName() {
        Setups.error(3, NONE + "variety abcd;variety ^abcd;");
        Setups.error(3, NONE + "grower abcd;grower ^abcd;");
        Setups.error(3, NONE + "variety abcd;grower ^abcd;");
        Setups.error(3, NONE + "grower abcd;variety ^abcd;");
        Setups.error(3, NONE + "variety a;variety b;variety c;grower d;grower e;grower ^a;");
        Setups.error(3, NONE + "variety a;grower d;grower e;grower f;grower g;variety ^g;");
        Setups.good(0, NONE + "variety a;variety aa;grower aaa;grower aaaa;grower b;variety aaab;grower baaa;");
    }

    @Sentence(of = "Terms", says = "There are at most 8 plots, numbered from 0.")
    static void termsAtMost8PlotsNumberedFrom0() {
        String eight = NONE + "variety v;grower g;plot g v 11;plot g v 12;plot g v 13;plot g v 14;"
                + "plot g v 15;plot g v 16;plot g v 17;plot g v 18;";
        WineCooperative x = Check.loaded(eight);
        Check.same("plotCount()", x.plotCount(), 8);
        for (int plot = 0; plot < 8; plot++) {
            Check.same("yieldLimit(" + plot + ")", x.yieldLimit(plot), 11 + plot);
        }
        Check.index("yieldLimit(8)", () -> x.yieldLimit(8));
        Setups.error(5, eight + "^plot g v 19;");
    }

    @Sentence(of = "Terms", says = "A plot belongs to a grower, has a variety and an area (1 to 99).")
    static void termsEachOf8PlotsHasAGrowerAndAVariety() {
        int[] growers = {0, 1, 2, 3, 4, 5, 0, 1};
        for (int plot = 0; plot < 8; plot++) {
            WineCooperative x = Check.loaded(Samples.WIDE);
            x.deliver(plot, 10, 90);
            Check.same("weightOf the grower of plot " + plot, x.weightOf(growers[plot]), 10);
            Check.same("varietyIn(0) of plot " + plot, x.varietyIn(0), plot % 4);
        }
    }

    @Sentence(of = "Terms", says = "A plot belongs to a grower, has a variety and an area (1 to 99).")
    static void termsAreaFrom1To99() {
        String text = NONE + "variety v;grower g;";
        Check.same("area 1", Check.loaded(text + "plot g v 1;").yieldLimit(0), 1);
        Check.same("area 99", Check.loaded(text + "plot g v 99;").yieldLimit(0), 99);
        Setups.error(2, text + "plot g v ^0;");
        Setups.error(2, text + "plot g v ^100;");
    }

    @Sentence(of = "Terms", says = "Its yield limit in kilograms is its area multiplied by the yield (1 to 200)")
    static void termsYieldFrom1To200() {
        String plots = "classes 0;variety v;grower g;plot g v 1;plot g v 99;";
        WineCooperative least = Check.loaded("cooperative 1 0;" + plots);
        Check.same("1 by 1", least.yieldLimit(0), 1);
        Check.same("99 by 1", least.yieldLimit(1), 99);
        WineCooperative most = Check.loaded("cooperative 200 0;" + plots);
        Check.same("1 by 200", most.yieldLimit(0), 200);
        Check.same("99 by 200", most.yieldLimit(1), 19800);
        Setups.error(2, "cooperative ^0 0;" + plots);
        Setups.error(2, "cooperative ^201 0;" + plots);
    }

    @Sentence(of = "Terms", says = "There are at most 20 loads")
    static void termsAtMost20Loads() {
        String twenty = Samples.BASE + Samples.times(20, "load 1 1 80;");
        WineCooperative x = Check.loaded(twenty);
        Check.same("loadCount()", x.loadCount(), 20);
        Check.state("the 21st load", () -> x.deliver(1, 1, 80));
        Check.same("loadCount() after it", x.loadCount(), 20);
        Setups.error(6, twenty + "load 1 1 80^;");
        Check.same("the 20th load", Samples.base(Samples.times(19, "load 1 1 80;")).deliver(1, 1, 80), 0);
    }

    @Sentence(of = "Terms", says = "There are at most 20 loads")
    static void termsLoadsAreNumberedAsTheyAreAccepted() {
        WineCooperative x = Samples.base("load 2 1 80;");
        x.deliver(0, 2, 80);
        Check.state("a refused load", () -> x.deliver(1, 301, 80));
        x.deliver(1, 3, 80);
        Check.same("plotOfLoad(0)", x.plotOfLoad(0), 2);
        Check.same("plotOfLoad(1)", x.plotOfLoad(1), 0);
        Check.same("plotOfLoad(2): a refused load has no number", x.plotOfLoad(2), 1);
        Check.same("loadCount()", x.loadCount(), 3);
    }

    @Sentence(of = "Terms", says = "A load comes from a plot and has a weight in kilograms (1 to 5000)")
    static void termsWeightFrom1To5000() {
        WineCooperative x = Check.loaded(Samples.HUGE + "load 0 1 250;load 0 5000 250;");
        Check.same("harvested(0)", x.harvested(0), 5001);
        Setups.error(2, Samples.HUGE + "load 0 ^0 250;");
        Setups.error(2, Samples.HUGE + "load 0 ^5001 250;");
        x.deliver(1, 5000, 250);
        x.deliver(1, 1, 250);
        Check.same("harvested(1)", x.harvested(1), 5001);
        Check.argument("deliver(1, 0, 250)", () -> x.deliver(1, 0, 250));
        Check.argument("deliver(1, 5001, 250)", () -> x.deliver(1, 5001, 250));
    }

    @Sentence(of = "Terms", says = "A load comes from a plot and has a weight in kilograms (1 to 5000)")
    static void termsSugarFrom0To250() {
        WineCooperative x = Check.loaded(Samples.HUGE + "load 0 2 0;load 0 2 250;");
        Check.same("averageSugar()", x.averageSugar(), 125.0);
        Setups.error(2, Samples.HUGE + "load 0 2 ^251;");
        Check.same("deliver(0, 2, 0)", x.deliver(0, 2, 0), 1);
        Check.same("deliver(0, 2, 250)", x.deliver(0, 2, 250), 0);
        Check.argument("deliver(0, 2, 251)", () -> x.deliver(0, 2, 251));
        Check.argument("deliver(0, 2, -1)", () -> x.deliver(0, 2, -1));
    }

    @Sentence(of = "Terms", says = "but the last class if the weight of all loads from the plot")
    static void termsTheClassUpToTheYieldLimit() {
        WineCooperative x = Samples.base("load 0 60 80;load 0 40 80;");
        Check.same("harvested(0) at the limit", x.harvested(0), x.yieldLimit(0));
        Check.same("classOfLoad(1)", x.classOfLoad(1), 0);
        Check.same("a load of all that the limit allows", Samples.base("").deliver(0, 100, 80), 0);
    }

    @Sentence(of = "Terms", says = "but the last class if the weight of all loads from the plot")
    static void termsTheLastClassAboveTheYieldLimit() {
        WineCooperative x = Samples.base("load 0 60 80;load 0 41 80;");
        Check.same("classOfLoad(1)", x.classOfLoad(1), 1);
        Check.same("one kilogram more in one load", Samples.base("").deliver(0, 101, 80), 1);
        Check.same("a load of another plot", x.deliver(2, 50, 80), 0);
        WineCooperative four = Check.loaded("cooperative 1 0;classes 90 75 60 45;variety v;grower g;plot g v 1;tank 9;");
        Check.same("the first kilogram", four.deliver(0, 1, 90), 0);
        Check.same("the second one", four.deliver(0, 1, 90), 3);
        Check.same("a load of class 2 by sugar", four.deliver(0, 1, 60), 3);
    }

    @Sentence(of = "Terms", says = "The class of a load never changes afterwards.")
    static void termsTheClassNeverChanges() {
        WineCooperative x = Samples.base("load 0 60 80;load 0 41 80;");
        x.deliver(0, 100, 80);
        x.setPrice(0, 0, 0);
        x.payLoad(0);
        x.bottle(0, 50);
        Check.same("classOfLoad(0)", x.classOfLoad(0), 0);
        Check.same("classOfLoad(1)", x.classOfLoad(1), 1);
    }

    @Sentence(of = "Terms", says = "Its value is its weight multiplied by the present price")
    static void termsValueAtThePresentPriceUntilPaid() {
        WineCooperative x = Samples.huge(1);
        Check.same("valueOf(0) at 0", x.valueOf(0), 0);
        x.setPrice(0, 0, 999);
        Check.same("valueOf(0), the greatest", x.valueOf(0), 4995000);
        x.setPrice(0, 0, 19);
        Check.same("payLoad(0)", x.payLoad(0), 95000);
        x.setPrice(0, 0, 20);
        Check.same("valueOf(0) as it was paid", x.valueOf(0), 95000);
        x.undo();
        x.undo();
        Check.same("valueOf(0) unpaid again", x.valueOf(0), 95000);
        x.setPrice(0, 0, 20);
        Check.same("valueOf(0) at the new price", x.valueOf(0), 100000);
    }

    @Sentence(of = "Terms", says = "There are at most 5 tanks, numbered from 0.")
    static void termsAtMost5TanksNumberedFrom0() {
        String five = NONE + "variety v;tank 11;tank 12;tank 13;tank 14;tank 15;";
        WineCooperative x = Check.loaded(five);
        for (int tank = 0; tank < 5; tank++) {
            Check.same("tankFor(0, " + (11 + tank) + ")", x.tankFor(0, 11 + tank), tank);
        }
        Check.same("content(4)", x.content(4), 0);
        Check.index("content(5)", () -> x.content(5));
        Setups.error(5, five + "^tank 16;");
    }

    @Sentence(of = "Terms", says = "A tank has a capacity in bottles (1 to 20000)")
    static void termsCapacityFrom1To20000() {
        String text = NONE + "variety v;";
        WineCooperative least = Check.loaded(text + "tank 1;");
        Check.same("room in a tank of 1", least.greatestLoad(0), 1);
        Check.same("four loads of 5000 in a tank of 20000", Samples.huge(4).content(0), 20000);
        Check.same("room behind them", Samples.huge(4).tankFor(0, 1), 1);
        Setups.error(2, text + "tank ^0;");
        Setups.error(2, text + "tank ^20001;");
    }

    @Sentence(of = "Terms", says = "A tank has a capacity in bottles (1 to 20000)")
    static void termsATankIsEmptyAtFirst() {
        WineCooperative x = Samples.wide(20, 0);
        Check.load(x, Samples.WIDE);
        for (int tank = 0; tank < 5; tank++) {
            Check.same("content(" + tank + ")", x.content(tank), 0);
            Check.same("varietyIn(" + tank + ")", x.varietyIn(tank), -1);
            Check.same("meanSugar(" + tank + ")", x.meanSugar(tank), 0);
        }
        x.deliver(1, 1, 46);
        Check.same("meanSugar(0) of the first load", x.meanSugar(0), 46);
    }

    @Sentence(of = "Terms", says = "A tank has a capacity in bottles (1 to 20000)")
    static void termsATankHasAVarietyAsLongAsItIsNotEmpty() {
        WineCooperative x = Samples.base("load 1 2 80;");
        x.bottle(0, 1);
        Check.same("varietyIn(0) of one bottle", x.varietyIn(0), 1);
        Check.same("tankFor(0, 1)", x.tankFor(0, 1), 1);
        x.bottle(0, 1);
        Check.same("varietyIn(0) of none", x.varietyIn(0), -1);
        Check.same("tankFor(0, 1)", x.tankFor(0, 1), 0);
    }

    @Sentence(of = "Terms", says = "One kilogram of grapes gives one bottle of wine.")
    static void termsOneKilogramGivesOneBottle() {
        WineCooperative x = Samples.base("load 0 100 80;");
        Check.same("content(0)", x.content(0), 100);
        Check.state("101 bottles", () -> x.bottle(0, 101));
        x.bottle(0, 100);
        Check.same("unsold(0)", x.unsold(0), 100);
        Check.same("content(0)", x.content(0), 0);
    }

    @Sentence(of = "Terms", says = "The sugar sum of a tank is the sum of the products")
    static void termsTheSugarSumOfWhatWasPutInLessWhatWasTakenOut() {
        WineCooperative x = Samples.base("load 0 3 80;load 0 1 84;");
        Check.same("324 by 4", x.meanSugar(0), 81);
        x.deliver(0, 1, 81);
        x.deliver(0, 1, 250);
        Check.same("655 by 6", x.meanSugar(0), 109);
        x.bottle(0, 5);
        Check.same("110 by 1", x.meanSugar(0), 110);
    }

    @Sentence(of = "Terms", says = "Its mean sugar is the sugar sum divided by the content, rounded down.")
    static void termsTheMeanSugarIsRoundedDown() {
        String text = "cooperative 9 0;classes 0;variety v;grower g;plot g v 9;tank 900;";
        Check.same("199 by 2", Check.loaded(text + "load 0 1 100;load 0 1 99;").meanSugar(0), 99);
        Check.same("200 by 2", Check.loaded(text + "load 0 1 101;load 0 1 99;").meanSugar(0), 100);
        Check.same("299 by 3", Check.loaded(text + "load 0 2 100;load 0 1 99;").meanSugar(0), 99);
        Check.same("250 by 251", Check.loaded(text + "load 0 1 250;load 0 250 0;").meanSugar(0), 0);
        Check.same("250 by 250", Check.loaded(text + "load 0 1 250;load 0 249 0;").meanSugar(0), 1);
        Check.same("the greatest", Samples.huge(4).meanSugar(0), 250);
    }

    @Sentence(of = "Terms", says = "The tank for a weight of a variety is the first tank that contains this variety")
    static void termsTheFirstTankOfTheVarietyWithEnoughRoom() {
        WineCooperative x = Samples.base("load 1 90 80;load 0 290 80;load 0 150 80;");
        Check.same("the tanks", Check.output(x), "90:rose 290:red 150:red");
        Check.same("tankFor(0, 10) with just enough room", x.tankFor(0, 10), 1);
        Check.same("tankFor(0, 11)", x.tankFor(0, 11), 2);
        Check.same("tankFor(0, 50) with just enough room", x.tankFor(0, 50), 2);
        Check.same("tankFor(0, 51)", x.tankFor(0, 51), -1);
        Check.same("tankFor(1, 10): tanks of another variety have room", x.tankFor(1, 10), 0);
        Check.same("tankFor(1, 11): tanks of another variety have room", x.tankFor(1, 11), -1);
        x.bottle(0, 90);
        Check.same("tankFor(0, 1): an empty tank comes later", x.tankFor(0, 1), 1);
    }

    @Sentence(of = "Terms", says = "The tank for a weight of a variety is the first tank that contains this variety")
    static void termsOrElseTheFirstEmptyTankWithEnoughCapacity() {
        WineCooperative x = Samples.base("");
        Check.same("tankFor(0, 100)", x.tankFor(0, 100), 0);
        Check.same("tankFor(0, 101)", x.tankFor(0, 101), 1);
        Check.same("tankFor(0, 300)", x.tankFor(0, 300), 1);
        Check.same("tankFor(0, 301)", x.tankFor(0, 301), -1);
        x.deliver(0, 300, 80);
        Check.same("tankFor(0, 100) beside a full tank", x.tankFor(0, 100), 0);
        Check.same("tankFor(0, 101) beside a full tank", x.tankFor(0, 101), 2);
        Check.same("tankFor(0, 200) beside a full tank", x.tankFor(0, 200), 2);
        Check.same("tankFor(0, 201) beside a full tank", x.tankFor(0, 201), -1);
    }

    @Sentence(of = "Terms", says = "A load is refused for the first of these reasons that applies")
    static void termsReason1IsThatThereAre20Loads() {
        WineCooperative x = Samples.base(Samples.times(19, "load 1 1 80;"));
        Check.same("refusal of the 20th load", x.refusal(1, 1, 80), 0);
        x.deliver(1, 1, 80);
        Check.same("refusal of the 21st load", x.refusal(1, 1, 80), 1);
        Check.same("refusal without a class, too", x.refusal(1, 1, 49), 1);
        Check.same("refusal without a tank, too", x.refusal(1, 301, 80), 1);
        Check.same("refusal for all reasons", x.refusal(1, 301, 49), 1);
    }

    @Sentence(of = "Terms", says = "A load is refused for the first of these reasons that applies")
    static void termsReason2IsThatThereIsNoClassBySugar() {
        WineCooperative x = Samples.base("");
        Check.same("refusal of sugar 50", x.refusal(0, 1, 50), 0);
        Check.same("refusal of sugar 49", x.refusal(0, 1, 49), 2);
        Check.same("refusal without a tank, too", x.refusal(0, 301, 49), 2);
        Check.same("refusal above the yield limit", x.refusal(2, 51, 49), 2);
        Check.state("deliver above the yield limit", () -> x.deliver(2, 51, 49));
    }

    @Sentence(of = "Terms", says = "A load is refused for the first of these reasons that applies")
    static void termsReason3IsThatThereIsNoTank() {
        WineCooperative x = Samples.base("");
        Check.same("refusal of 300", x.refusal(0, 300, 80), 0);
        Check.same("refusal of 301", x.refusal(0, 301, 80), 3);
        WineCooperative full = Samples.base("load 0 100 80;load 0 300 80;load 0 200 80;");
        Check.same("refusal of 1 if all tanks are full", full.refusal(0, 1, 80), 3);
        WineCooperative none = Check.loaded(NONE + "variety v;grower g;plot g v 1;");
        Check.same("refusal of 1 without tanks", none.refusal(0, 1, 60), 3);
    }

    @Sentence(of = "Terms", says = "There are at most 12 lots, numbered from 0.")
    static void termsAtMost12LotsNumberedFrom0() {
        WineCooperative x = Samples.base("load 0 50 80;");
        for (int lot = 0; lot < 12; lot++) {
            Check.same("lot", x.bottle(0, 1), lot);
        }
        x.sell(0, 1, 1);
        Check.state("a 13th lot, though one is sold", () -> x.bottle(0, 1));
        Check.same("lotCount()", x.lotCount(), 12);
        String twelve = Samples.BASE + "load 0 50 81;" + Samples.times(11, "bottle 0 1;") + "bottle 0 39;";
        WineCooperative y = Check.loaded(twelve);
        Check.same("lotCount() of the text", y.lotCount(), 12);
        Check.same("unsold(11) of the text", y.unsold(11), 39);
        Check.same("lotSugar(11) of the text", y.lotSugar(11), 81);
        Setups.error(6, twelve + "load 0 50 81;bottle 0 1^;");
    }

    @Sentence(of = "Terms", says = "When wine is bottled from a tank, a lot is made")
    static void termsALotKeepsVarietyAndMeanOfItsMoment() {
        WineCooperative x = Samples.base("load 1 2 80;load 1 1 81;");
        x.bottle(0, 3);
        x.deliver(0, 5, 50);
        x.bottle(0, 5);
        Check.same("lotVariety(0) of an emptied tank", x.lotVariety(0), 1);
        Check.same("lotSugar(0): 241 by 3", x.lotSugar(0), 80);
        Check.same("unsold(0)", x.unsold(0), 3);
        Check.same("lotVariety(1)", x.lotVariety(1), 0);
        Check.same("lotSugar(1)", x.lotSugar(1), 50);
        Check.same("unsold(1)", x.unsold(1), 5);
    }

    @Sentence(of = "Terms", says = "The content of the tank decreases by the number of bottles")
    static void termsBottlingTakesTheMeanSugarOut() {
        WineCooperative x = Samples.base("load 0 2 80;load 0 2 83;");
        x.bottle(0, 3);
        Check.same("lotSugar(0): 326 by 4", x.lotSugar(0), 81);
        Check.same("content(0)", x.content(0), 1);
        Check.same("meanSugar(0): 326 less 3 by 81", x.meanSugar(0), 83);
    }

    @Sentence(of = "Terms", says = "The content of the tank decreases by the number of bottles")
    static void termsTheSugarSumIs0IfTheTankBecomesEmpty() {
        WineCooperative x = Samples.base("load 0 2 80;load 0 2 83;");
        x.bottle(0, 4);
        Check.same("meanSugar(0) of the empty tank", x.meanSugar(0), 0);
        x.deliver(1, 1, 60);
        Check.same("meanSugar(0) of a new load: nothing is left of 2", x.meanSugar(0), 60);
    }

    @Sentence(of = "Terms", says = "A lot has a number of bottles that are not sold yet.")
    static void termsBottlesOfALotAreSoldDownTo0() {
        WineCooperative x = Samples.base("load 0 9 80;bottle 0 3;");
        Check.same("unsold(0)", x.unsold(0), 3);
        x.sell(0, 2, 1);
        Check.same("unsold(0)", x.unsold(0), 1);
        x.sell(0, 1, 1);
        Check.same("unsold(0)", x.unsold(0), 0);
        Check.state("one more", () -> x.sell(0, 1, 1));
        Check.same("lotCount()", x.lotCount(), 1);
    }

    @Sentence(of = "Terms", says = "The cooperative has cash in cents.")
    static void termsTheCashFromNoneOnToTheGreatest() {
        Check.same("no cash", Samples.none().cash(), 0);
        WineCooperative x = Samples.huge(20);
        for (int lot = 0; lot < 5; lot++) {
            x.bottle(lot, 20000);
            Check.same("sell", x.sell(lot, 20000, 9999), 99999 + (lot + 1) * 199980000);
        }
        Check.same("the greatest cash of any run", x.cash(), 999999999);
    }

    @Sentence(of = "Terms", says = "Selling bottles increases the cash, paying growers decreases it.")
    static void termsSellingIncreasesAndPayingDecreasesTheCash() {
        WineCooperative x = Check.loaded("cooperative 9 0;classes 60;variety v;price v 0 1;grower g;plot g v 9;tank 90;"
                + "load 0 2 60;load 0 1 60;bottle 0 3;");
        x.sell(0, 2, 1);
        Check.same("cash() after a sale", x.cash(), 2);
        x.payLoad(0);
        Check.same("cash() after a payment of all of it", x.cash(), 0);
        x.sell(0, 1, 9);
        x.payGrower(0);
        Check.same("cash() after both", x.cash(), 8);
    }
}
