/** The boundary cases of the promises 61 to 65: saved states, undo and the output text. */
final class StateBoundaryTests {
    private static final String NO_SLOT = "Throws `IndexOutOfBoundsException` if there is no such slot";
    private static final String SLOTS = "- `slot`: 0 or 1";

    private StateBoundaryTests() {
    }

    public static void main(String[] args) {
        Sentences.run(StateBoundaryTests.class);
    }

    private static WineCooperative priced(int cents) {
        WineCooperative x = new WineCooperative();
        x.setPrice(0, 0, cents);
        return x;
    }

    @Sentence(of = "Promise 61", says = "Saves everything that undo would bring back in a slot")
    static void promise61SavesAllOfTheState() {
        WineCooperative x = Samples.wide(9, 12);
        x.sell(0, 1, 9);
        x.setPrice(1, 0, 9);
        x.payGrower(1);
        x.save(0);
        x.save(1);
        Check.load(x, Samples.NONE);
        x.restore(1);
        WineCooperative y = Samples.wide(9, 12);
        y.sell(0, 1, 9);
        y.setPrice(1, 0, 9);
        y.payGrower(1);
        Check.same("the state", Fingerprint.of(x), Fingerprint.of(y));
    }

    @Sentence(of = "Promise 61", says = "and replaces what was saved there.")
    static void promise61ReplacesWhatWasSavedInThisSlotOnly() {
        WineCooperative x = priced(1);
        x.save(0);
        x.save(1);
        x.setPrice(0, 0, 2);
        x.save(0);
        x.setPrice(0, 0, 3);
        x.restore(0);
        Check.same("price(0, 0) of slot 0", x.price(0, 0), 2);
        x.restore(1);
        Check.same("price(0, 0) of slot 1", x.price(0, 0), 1);
    }

    @Sentence(of = "Promise 61", says = SLOTS)
    static void promise61Slots0And1() {
        WineCooperative x = priced(1);
        Check.same("save(0)", x.save(0), 5000);
        Check.state("restore(1) of the other slot", () -> x.restore(1));
        Check.same("save(1)", x.save(1), 5000);
        Check.same("restore(1)", x.restore(1), 5000);
    }

    @Sentence(of = "Promise 61", says = "Returns the cash.")
    static void promise61ReturnsTheCash() {
        Check.same("none", Samples.none().save(0), 0);
        Check.same("of the text", Samples.huge(0).save(1), 99999);
        WineCooperative x = Samples.base("load 0 9 80;bottle 0 1;sell 0 1 9;");
        Check.same("of now", x.save(0), 1009);
    }

    @Sentence(of = "Promise 61", says = NO_SLOT)
    static void promise61ThrowsForNoSuchSlot() {
        for (int wrong : new int[] {Samples.MIN, -1, 2, 3, Samples.MAX}) {
            Check.index("save(" + wrong + ")", () -> new WineCooperative().save(wrong));
        }
    }

    @Sentence(of = "Promise 62", says = "Restores what was saved in a slot.")
    static void promise62RestoresWhatWasSaved() {
        WineCooperative x = Samples.base("load 0 9 80;");
        x.save(1);
        Check.load(x, Samples.WIDE);
        Check.same("restore(1)", x.restore(1), 1000);
        Check.same("the state", Fingerprint.of(x), Fingerprint.of(Samples.base("load 0 9 80;")));
    }

    @Sentence(of = "Promise 62", says = "The slot keeps it.")
    static void promise62TheSlotKeepsIt() {
        WineCooperative x = priced(1);
        x.save(0);
        for (int cents = 2; cents < 9; cents++) {
            x.setPrice(0, 0, cents);
            x.restore(0);
            Check.same("price(0, 0)", x.price(0, 0), 1);
        }
    }

    @Sentence(of = "Promise 62", says = "This is a change, and earlier changes can still be undone.")
    static void promise62EarlierChangesCanStillBeUndone() {
        WineCooperative x = priced(1);
        x.save(0);
        x.setPrice(0, 0, 2);
        x.setPrice(0, 0, 3);
        x.restore(0);
        Check.same("price(0, 0)", x.price(0, 0), 1);
        int[] due = {3, 2, 1, 12};
        for (int left = 3; left >= 0; left--) {
            Check.same("undo", x.undo(), left);
            Check.same("price(0, 0)", x.price(0, 0), due[3 - left]);
        }
        Check.state("undo", x::undo);
    }

    @Sentence(of = "Promise 62", says = "This is a change, and earlier changes can still be undone.")
    static void promise62ARestoreOfTheSameStateIsAChange() {
        WineCooperative x = new WineCooperative();
        x.save(0);
        for (int i = 0; i < 7; i++) {
            x.restore(0);
        }
        for (int left = 5; left >= 0; left--) {
            Check.same("undo", x.undo(), left);
        }
        Check.state("undo", x::undo);
    }

    @Sentence(of = "Promise 62", says = SLOTS)
    static void promise62Slots0And1() {
        WineCooperative x = priced(1);
        x.save(0);
        x.setPrice(0, 0, 2);
        x.save(1);
        x.restore(0);
        Check.same("price(0, 0) of slot 0", x.price(0, 0), 1);
        x.restore(1);
        Check.same("price(0, 0) of slot 1", x.price(0, 0), 2);
    }

    @Sentence(of = "Promise 62", says = "Returns the cash afterwards.")
    static void promise62ReturnsTheCashAfterwards() {
        WineCooperative x = Samples.base("load 0 9 80;bottle 0 9;");
        x.save(0);
        x.sell(0, 9, 9999);
        x.save(1);
        Check.same("restore(0)", x.restore(0), 1000);
        Check.same("restore(1)", x.restore(1), 90991);
    }

    @Sentence(of = "Promise 62", says = NO_SLOT)
    static void promise62ThrowsForNoSuchSlot() {
        for (int wrong : new int[] {Samples.MIN, -1, 2, 3, Samples.MAX}) {
            WineCooperative x = priced(1);
            x.save(0);
            x.save(1);
            Check.index("restore(" + wrong + ")", () -> x.restore(wrong));
            Check.same("undo: no change was added", x.undo(), 0);
        }
    }

    @Sentence(of = "Promise 62", says = "Throws `IllegalStateException` if nothing is saved there")
    static void promise62ThrowsIfNothingIsSavedThere() {
        for (int slot = 0; slot < 2; slot++) {
            int empty = slot;
            Edges.refusedNow("of slot " + slot, () -> {
                WineCooperative x = priced(1);
                x.save(1 - empty);
                return x;
            }, x -> x.restore(empty));
        }
    }

    @Sentence(of = "Promise 63", says = "Undoes the latest change that has not been undone.")
    static void promise63TheLatestThatHasNotBeenUndone() {
        WineCooperative x = priced(1);
        x.setPrice(0, 0, 2);
        x.setPrice(0, 0, 3);
        x.undo();
        Check.same("price(0, 0)", x.price(0, 0), 2);
        x.undo();
        Check.same("price(0, 0)", x.price(0, 0), 1);
        x.setPrice(0, 0, 4);
        x.undo();
        Check.same("price(0, 0)", x.price(0, 0), 1);
        x.undo();
        Check.same("price(0, 0)", x.price(0, 0), 12);
    }

    @Sentence(of = "Promise 63", says = "Undoes the latest change that has not been undone.")
    static void promise63AfterTheRoomForChangesWasUsedManyTimes() {
        WineCooperative x = new WineCooperative();
        for (int cents = 1; cents <= 100; cents++) {
            x.setPrice(0, 0, cents);
            if (cents % 3 == 0) {
                x.undo();
                Check.same("price(0, 0)", x.price(0, 0), cents - 1);
            }
        }
        int[] due = {98, 97, 95, 94, 92, 91};
        x.undo();
        Check.same("price(0, 0)", x.price(0, 0), due[0]);
        for (int left = 4; left >= 0; left--) {
            Check.same("undo", x.undo(), left);
            Check.same("price(0, 0)", x.price(0, 0), due[5 - left]);
        }
        Check.state("undo", x::undo);
    }

    @Sentence(of = "Promise 63", says = "Returns the number of changes that can still be undone.")
    static void promise63ReturnsFrom5To0() {
        for (int changes = 1; changes <= 9; changes++) {
            WineCooperative x = new WineCooperative();
            for (int i = 0; i < changes; i++) {
                x.setPrice(0, 0, i);
            }
            for (int left = Math.min(changes, 6) - 1; left >= 0; left--) {
                Check.same("undo of " + changes, x.undo(), left);
            }
        }
    }

    @Sentence(of = "Promise 63", says = "Throws `IllegalStateException` if there is no change to undo")
    static void promise63ThrowsIfThereIsNoChangeToUndo() {
        Edges.refusedNow("of a new object", WineCooperative::new, x -> x.undo());
        WineCooperative x = priced(1);
        x.undo();
        Check.state("all is undone", x::undo);
        Check.same("price(0, 0)", x.price(0, 0), 12);
        x.setPrice(0, 0, 2);
        Check.same("undo of a new change", x.undo(), 0);
        Check.same("price(0, 0)", x.price(0, 0), 12);
    }

    @Sentence(of = "Promise 64", says = "Writes the tanks to the output text and replaces its content")
    static void promise64EmptyAndFullTanksAndAllNames() {
        WineCooperative x = Check.loaded("cooperative 200 0;classes 0;variety zzzz;variety a;variety azby;variety yz;"
                + "grower g;plot g zzzz 99;plot g a 99;plot g azby 99;plot g yz 99;"
                + "tank 20000;tank 1;tank 12;tank 300;tank 4000;");
        Check.same("empty tanks", Check.output(x), "0 0 0 0 0");
        for (int load = 0; load < 4; load++) {
            x.deliver(0, 5000, 9);
        }
        x.deliver(1, 1, 9);
        x.deliver(2, 10, 9);
        x.deliver(3, 105, 9);
        Check.same("full tanks", Check.output(x), "20000:zzzz 1:a 10:azby 105:yz 0");
        x.bottle(1, 1);
        x.bottle(0, 19999);
        Check.same("replaced by a shorter text", Check.output(x), "1:zzzz 0 10:azby 105:yz 0");
        Check.same("one tank", Check.output(Samples.one()), "30:v");
    }

    @Sentence(of = "Promise 64", says = "Returns the length of the output text, 0 if there are no tanks.")
    static void promise64TheLengthAnd0WithoutTanks() {
        Check.same("no tanks", Samples.none().printTanks(), 0);
        Check.same("one empty tank", Check.loaded(Samples.NONE + "tank 9;").printTanks(), 1);
        WineCooperative x = new WineCooperative();
        Check.same("the first state", x.printTanks(), "680:red 200:rose 90:red".length());
        Check.same("once more", x.printTanks(), "680:red 200:rose 90:red".length());
        Check.load(x, Samples.NONE);
        Check.same("no tanks any more", x.printTanks(), 0);
        Check.element("outputByte(0)", () -> x.outputByte(0));
        Check.same("five full tanks", Samples.huge(20).printTanks(), 5 * "20000:v".length() + 4);
    }

    @Sentence(of = "Promise 65", says = "- `index`: index of a byte of the output text, from 0")
    static void promise65IndicesFrom0() {
        WineCooperative x = new WineCooperative();
        int length = x.printTanks();
        Check.same("outputByte(0)", x.outputByte(0), (int) '6');
        Check.same("outputByte(length - 1)", x.outputByte(length - 1), (int) 'd');
    }

    @Sentence(of = "Promise 65", says = "Returns the byte.")
    static void promise65ReturnsTheByte() {
        WineCooperative x = Samples.one();
        Check.same("printTanks()", x.printTanks(), 4);
        int[] due = {51, 48, 58, 118};
        for (int i = 0; i < 4; i++) {
            Check.same("outputByte(" + i + ")", x.outputByte(i), due[i]);
        }
        WineCooperative y = Samples.base("");
        y.printTanks();
        Check.same("a space", y.outputByte(1), 32);
    }

    @Sentence(of = "Promise 65", says = "Throws `NoSuchElementException` if there is no such byte")
    static void promise65ThrowsForNoSuchByte() {
        WineCooperative x = new WineCooperative();
        Check.element("outputByte(0) of an empty text", () -> x.outputByte(0));
        int length = x.printTanks();
        for (int wrong : new int[] {Samples.MIN, -1, length, length + 1, Samples.MAX}) {
            Check.element("outputByte(" + wrong + ")", () -> x.outputByte(wrong));
        }
        x.bottle(0, 680);
        int less = x.printTanks();
        Check.holds("a shorter text", less < length);
        Check.element("outputByte behind the shorter text", () -> x.outputByte(less));
        Check.element("outputByte of the text before", () -> x.outputByte(length - 1));
    }
}
