import java.util.function.Consumer;
import java.util.function.Supplier;

/** The boundary cases of "Terms" that speak of changes, of undoing them, and of the state before the first load. */
final class UndoBoundaryTests {
    private static final String START = "cooperative 30 5000;classes 90 75 60;variety red;variety rose;price red 0 12;"
            + "price red 1 9;price red 2 5;price rose 0 10;price rose 1 8;grower ann;grower bert;plot ann red 20;"
            + "plot bert red 10;plot bert rose 8;tank 700;tank 500;tank 300;load 0 400 92;load 1 280 78;"
            + "load 2 200 76;load 1 90 95;";
    private static final String CHANGES = "These methods are changes: load if it succeeds";

    private UndoBoundaryTests() {
    }

    public static void main(String[] args) {
        Sentences.run(UndoBoundaryTests.class);
    }

    /** Two loads of 60 red and 50 rose, a lot of 20 red, and a saved state with one load more. */
    private static WineCooperative busy() {
        WineCooperative x = Samples.base("load 0 60 81;load 1 50 80;bottle 0 20;");
        x.deliver(0, 5, 80);
        x.save(0);
        x.undo();
        return x;
    }

    /** The call adds one change, and undo takes back all of it. */
    private static void isAChange(Consumer<WineCooperative> call) {
        WineCooperative x = busy();
        call.accept(x);
        Check.same("the call changes something", Fingerprint.of(x).equals(Fingerprint.of(busy())), false);
        WineCooperative y = busy();
        call.accept(y);
        Check.same("undo: the load of busy() is left", y.undo(), 1);
        Check.same("the state after undo", Fingerprint.of(y), Fingerprint.of(busy()));
    }

    /** The call adds none: undo takes back the price that was set before it. */
    private static void isNoChange(Consumer<WineCooperative> call) {
        WineCooperative x = busy();
        x.setPrice(0, 0, 77);
        call.accept(x);
        Check.same("price(0, 0)", x.price(0, 0), 77);
        Check.same("undo", x.undo(), 1);
        Check.same("price(0, 0) after undo", x.price(0, 0), 3);
    }

    @Sentence(of = "Terms", says = CHANGES)
    static void termsLoadThatSucceedsIsAChange() {
        isAChange(x -> Check.load(x, Samples.NONE));
    }

    @Sentence(of = "Terms", says = CHANGES)
    static void termsLoadThatFailsIsNoChange() {
        isNoChange(x -> Check.load(x, Samples.NONE + "x"));
        isNoChange(x -> Check.same("load() of nothing", x.load(), -7));
    }

    @Sentence(of = "Terms", says = CHANGES)
    static void termsDeliverIsAChange() {
        isAChange(x -> x.deliver(0, 5, 80));
    }

    @Sentence(of = "Terms", says = CHANGES)
    static void termsSetPriceIsAChange() {
        isAChange(x -> x.setPrice(0, 0, 77));
        WineCooperative same = busy();
        same.setPrice(0, 0, 3);
        Check.same("undo of the same price", same.undo(), 1);
    }

    @Sentence(of = "Terms", says = CHANGES)
    static void termsBottleIsAChange() {
        isAChange(x -> x.bottle(0, 40));
    }

    @Sentence(of = "Terms", says = CHANGES)
    static void termsSellIsAChange() {
        isAChange(x -> x.sell(0, 20, 3));
    }

    @Sentence(of = "Terms", says = CHANGES)
    static void termsPayLoadIsAChange() {
        isAChange(x -> x.payLoad(0));
    }

    @Sentence(of = "Terms", says = CHANGES)
    static void termsPayGrowerIsAChange() {
        isAChange(x -> x.payGrower(1));
    }

    @Sentence(of = "Terms", says = CHANGES)
    static void termsPumpIsAChange() {
        isAChange(x -> x.pump(0, 2));
    }

    @Sentence(of = "Terms", says = CHANGES)
    static void termsRestoreIsAChange() {
        isAChange(x -> x.restore(0));
    }

    @Sentence(of = "Terms", says = CHANGES)
    static void termsNothingElseIsAChange() {
        isNoChange(x -> x.append(0x20202020, 0, 0, 0, 0));
        isNoChange(x -> x.truncate(0));
        isNoChange(x -> x.save(1));
        isNoChange(x -> x.printTanks());
        isNoChange(x -> Fingerprint.of(x));
    }

    private static void nothing(Class<?> due, String what, Supplier<WineCooperative> make,
            Consumer<WineCooperative> call) {
        Edges.refused(due, what, make, call);
    }

    @Sentence(of = "Terms", says = "A call that throws an exception changes nothing.")
    static void termsACallWithANumberOfNothingChangesNothing() {
        Class<?> index = IndexOutOfBoundsException.class;
        for (int wrong : new int[] {-1, 12}) {
            nothing(index, "deliver", UndoBoundaryTests::busy, x -> x.deliver(wrong, 5, 80));
            nothing(index, "setPrice", UndoBoundaryTests::busy, x -> x.setPrice(wrong, 0, 5));
            nothing(index, "setPrice", UndoBoundaryTests::busy, x -> x.setPrice(0, wrong, 5));
            nothing(index, "bottle", UndoBoundaryTests::busy, x -> x.bottle(wrong, 5));
            nothing(index, "sell", UndoBoundaryTests::busy, x -> x.sell(wrong, 5, 5));
            nothing(index, "payLoad", UndoBoundaryTests::busy, x -> x.payLoad(wrong));
            nothing(index, "payGrower", UndoBoundaryTests::busy, x -> x.payGrower(wrong));
            nothing(index, "pump", UndoBoundaryTests::busy, x -> x.pump(wrong, 2));
            nothing(index, "pump", UndoBoundaryTests::busy, x -> x.pump(0, wrong));
            nothing(index, "save", UndoBoundaryTests::busy, x -> x.save(wrong));
            nothing(index, "restore", UndoBoundaryTests::busy, x -> x.restore(wrong));
        }
    }

    @Sentence(of = "Terms", says = "A call that throws an exception changes nothing.")
    static void termsACallWithAValueOutOfRangeChangesNothing() {
        Class<?> argument = IllegalArgumentException.class;
        nothing(argument, "deliver", UndoBoundaryTests::busy, x -> x.deliver(0, 0, 80));
        nothing(argument, "deliver", UndoBoundaryTests::busy, x -> x.deliver(0, 5, 251));
        nothing(argument, "setPrice", UndoBoundaryTests::busy, x -> x.setPrice(0, 0, 1000));
        nothing(argument, "bottle", UndoBoundaryTests::busy, x -> x.bottle(0, 0));
        nothing(argument, "sell", UndoBoundaryTests::busy, x -> x.sell(0, 0, 5));
        nothing(argument, "sell", UndoBoundaryTests::busy, x -> x.sell(0, 5, 0));
        nothing(argument, "pump", UndoBoundaryTests::busy, x -> x.pump(0, 0));
        nothing(argument, "truncate", UndoBoundaryTests::busy, x -> x.truncate(1));
    }

    @Sentence(of = "Terms", says = "A call that throws an exception changes nothing.")
    static void termsACallThatCannotBeCarriedOutChangesNothing() {
        Class<?> state = IllegalStateException.class;
        nothing(state, "deliver without a class", UndoBoundaryTests::busy, x -> x.deliver(0, 5, 49));
        nothing(state, "deliver without a tank", UndoBoundaryTests::busy, x -> x.deliver(0, 301, 80));
        nothing(state, "bottle", UndoBoundaryTests::busy, x -> x.bottle(0, 41));
        nothing(state, "sell", UndoBoundaryTests::busy, x -> x.sell(0, 21, 5));
        nothing(state, "payLoad", Samples.baseWith("load 0 4 80;pay ann;"), x -> x.payLoad(0));
        nothing(state, "payLoad", Samples.baseWith("load 1 201 80;price rose 1 5;"), x -> x.payLoad(0));
        nothing(state, "payGrower", UndoBoundaryTests::busy, x -> x.payGrower(2));
        nothing(state, "payGrower of two loads", Samples.baseWith("price rose 1 5;load 1 100 80;load 1 101 80;"),
                x -> x.payGrower(1));
        nothing(state, "pump", UndoBoundaryTests::busy, x -> x.pump(0, 1));
        nothing(state, "restore", UndoBoundaryTests::busy, x -> x.restore(1));
        nothing(state, "undo", WineCooperative::new, x -> x.undo());
    }

    @Sentence(of = "Terms", says = "The latest 6 changes can be undone, the latest one first.")
    static void termsTheLatest6ChangesAndNoMoreCanBeUndone() {
        for (int changes = 1; changes <= 20; changes++) {
            WineCooperative x = new WineCooperative();
            for (int cents = 1; cents <= changes; cents++) {
                x.setPrice(0, 0, 100 + cents);
            }
            int kept = Math.min(changes, 6);
            for (int left = kept - 1; left >= 0; left--) {
                Check.same("undo of " + changes, x.undo(), left);
                int due = changes == kept && left == 0 ? 12 : 100 + changes - kept + left;
                Check.same("price(0, 0) with " + left + " of " + changes + " left", x.price(0, 0), due);
            }
            Check.state("undo of one more of " + changes, x::undo);
        }
    }

    @Sentence(of = "Terms", says = "The latest 6 changes can be undone, the latest one first.")
    static void termsTheLatest6ChangesUpToThe512thCall() {
        WineCooperative x = new WineCooperative();
        for (int cents = 1; cents <= 499; cents++) {
            x.setPrice(0, 0, cents);
        }
        for (int left = 5; left >= 0; left--) {
            Check.same("undo", x.undo(), left);
            Check.same("price(0, 0)", x.price(0, 0), 493 + left);
        }
        Check.state("undo in the 512th call", x::undo);
    }

    @Sentence(of = "Terms", says = "The latest 6 changes can be undone, the latest one first.")
    static void termsAnUndoneChangeIsGone() {
        WineCooperative x = new WineCooperative();
        for (int cents = 1; cents <= 6; cents++) {
            x.setPrice(0, 0, cents);
        }
        for (int round = 0; round < 10; round++) {
            Check.same("undo", x.undo(), 5);
            Check.same("undo", x.undo(), 4);
            Check.same("price(0, 0)", x.price(0, 0), 4);
            x.setPrice(0, 0, 50);
            x.setPrice(0, 0, 60);
        }
        for (int left = 5; left >= 0; left--) {
            Check.same("undo", x.undo(), left);
        }
        Check.same("price(0, 0) of the beginning", x.price(0, 0), 12);
        Check.state("undo", x::undo);
    }

    @Sentence(of = "Terms", says = "Undoing a change brings back everything but")
    static void termsUndoKeepsTheInputBuffer() {
        WineCooperative x = new WineCooperative();
        x.setPrice(0, 0, 1);
        Check.feed(x, Samples.NONE);
        x.undo();
        Check.argument("truncate to more", () -> x.truncate(Samples.NONE.length() + 1));
        Check.same("load()", x.load(), 0);
        Check.same("classCount()", x.classCount(), 1);
        x.undo();
        Check.argument("truncate(1): undo does not fill the buffer again", () -> x.truncate(1));
    }

    @Sentence(of = "Terms", says = "Undoing a change brings back everything but")
    static void termsUndoKeepsTheError() {
        WineCooperative x = new WineCooperative();
        x.setPrice(0, 0, 1);
        Check.load(x, "cooperative 0");
        x.undo();
        Check.same("errorCode()", x.errorCode(), 2);
        Check.same("errorOffset()", x.errorOffset(), 12);
        Check.load(x, Samples.NONE);
        x.undo();
        Check.same("errorCode() of the success", x.errorCode(), 0);
        Check.same("errorOffset() of the success", x.errorOffset(), -1);
    }

    @Sentence(of = "Terms", says = "Undoing a change brings back everything but")
    static void termsUndoKeepsTheOutputText() {
        WineCooperative x = Samples.base("load 0 9 80;");
        x.deliver(0, 1, 80);
        int length = x.printTanks();
        x.undo();
        Check.same("outputByte(0)", x.outputByte(0), (int) '1');
        Check.same("outputByte(1)", x.outputByte(1), (int) '0');
        Check.element("outputByte(length)", () -> x.outputByte(length));
    }

    @Sentence(of = "Terms", says = "Undoing a change brings back everything but")
    static void termsUndoKeepsTheSavedStates() {
        WineCooperative x = new WineCooperative();
        x.setPrice(0, 0, 1);
        x.save(0);
        x.save(1);
        x.undo();
        x.restore(0);
        Check.same("price(0, 0)", x.price(0, 0), 1);
        x.setPrice(0, 0, 2);
        x.undo();
        x.undo();
        x.restore(1);
        Check.same("price(0, 0)", x.price(0, 0), 1);
    }

    @Sentence(of = "Terms", says = "Undoing a change brings back everything but")
    static void termsUndoBringsBackAllElse() {
        WineCooperative x = busy();
        x.deliver(0, 5, 80);
        x.payGrower(0);
        x.sell(0, 20, 9999);
        x.pump(0, 2);
        Check.load(x, Samples.WIDE);
        for (int left = 5; left >= 1; left--) {
            Check.same("undo", x.undo(), left);
        }
        Check.same("the state", Fingerprint.of(x), Fingerprint.of(busy()));
    }

    @Sentence(of = "Terms", says = "Before the first successful call of load the state is as if this text had been loaded")
    static void termsTheStateBeforeTheFirstLoad() {
        Check.same("the text of the document", Document.find("Terms", START).size(), 1);
        Check.same("the state", Fingerprint.of(new WineCooperative()), Fingerprint.of(Check.loaded(START)));
        Check.same("the tanks", Check.output(new WineCooperative()), "680:red 200:rose 90:red");
        Check.state("no change can be undone", () -> new WineCooperative().undo());
    }

    @Sentence(of = "Terms", says = "Before the first successful call of load the state is as if this text had been loaded")
    static void termsTheStateAfterALoadThatFails() {
        WineCooperative x = new WineCooperative();
        Check.same("load()", x.load(), -7);
        Check.same("load of a text with an error at its end", Check.load(x, Samples.NONE + "x"), -7);
        Check.same("the state", Fingerprint.of(x), Fingerprint.of(Check.loaded(START)));
    }

    @Sentence(of = "Terms", says = "The constants: `PARSE_ERROR = -7`: The result of load if the text has an error.")
    static void termsParseErrorIsTheResultOfAFailedLoad() {
        Check.same("PARSE_ERROR", WineCooperative.PARSE_ERROR, -7);
        Check.same("load()", new WineCooperative().load(), -7);
        Check.same("load of a text with an error at its end", Check.load(new WineCooperative(), START + "x"), -7);
        Check.same("load of a good text", Check.load(new WineCooperative(), START), 4);
    }
}
