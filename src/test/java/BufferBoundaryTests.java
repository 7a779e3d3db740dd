/** The boundary cases of the promises 1 to 6: a new object, the input buffer, load and its error. */
final class BufferBoundaryTests {
    private static final int BLANK = 0x20202020;

    private BufferBoundaryTests() {
    }

    public static void main(String[] args) {
        Sentences.run(BufferBoundaryTests.class);
    }

    private static int appendBlanks(WineCooperative x) {
        return x.append(BLANK, BLANK, BLANK, BLANK, BLANK);
    }

    private static WineCooperative filled(int calls) {
        WineCooperative x = new WineCooperative();
        for (int i = 0; i < calls; i++) {
            appendBlanks(x);
        }
        return x;
    }

    /** Twenty blanks but for one byte, at this place. */
    private static int appendOne(WineCooperative x, int place, int sign) {
        int[] words = {BLANK, BLANK, BLANK, BLANK, BLANK};
        int shift = 8 * (3 - place % 4);
        words[place / 4] = BLANK & ~(255 << shift) | sign << shift;
        return x.append(words[0], words[1], words[2], words[3], words[4]);
    }

    @Sentence(of = "Promise 1", says = "Creates the state described above")
    static void promise1TheStateDescribed() {
        WineCooperative x = new WineCooperative();
        Check.same("loadCount()", x.loadCount(), 4);
        Check.same("lotCount()", x.lotCount(), 0);
        Check.same("cash()", x.cash(), 5000);
        Check.same("the tanks", Check.output(x), "680:red 200:rose 90:red");
        Check.state("undo()", x::undo);
    }

    @Sentence(of = "Promise 1", says = "with an empty input buffer")
    static void promise1AnEmptyInputBuffer() {
        WineCooperative x = new WineCooperative();
        Check.argument("truncate(1)", () -> x.truncate(1));
        Check.same("truncate(0)", x.truncate(0), 0);
        Check.same("append", appendBlanks(x), 20);
        WineCooperative y = new WineCooperative();
        Check.same("load()", y.load(), -7);
        Check.same("errorOffset()", y.errorOffset(), 0);
    }

    @Sentence(of = "Promise 1", says = "no error")
    static void promise1NoError() {
        Check.same("errorCode()", new WineCooperative().errorCode(), 0);
        Check.same("errorOffset()", new WineCooperative().errorOffset(), -1);
    }

    @Sentence(of = "Promise 1", says = "an empty output text")
    static void promise1AnEmptyOutputText() {
        Check.element("outputByte(0)", () -> new WineCooperative().outputByte(0));
    }

    @Sentence(of = "Promise 1", says = "no saved states")
    static void promise1NoSavedStates() {
        Check.state("restore(0)", () -> new WineCooperative().restore(0));
        Check.state("restore(1)", () -> new WineCooperative().restore(1));
    }

    @Sentence(of = "Promise 2", says = "Appends 20 bytes to the input buffer")
    static void promise2TheMostSignificantByteOfEachParameterFirst() {
        for (int place = 0; place < 20; place++) {
            WineCooperative x = new WineCooperative();
            appendOne(x, place, 'x');
            x.load();
            Check.same("errorOffset() of a byte at " + place, x.errorOffset(), place);
        }
        WineCooperative x = new WineCooperative();
        x.append(0x636f6f70, 0x65726174, 0x69766520, 0x31203233, 0x343b636c);
        x.append(0x61737365, 0x7320373b, BLANK, BLANK, BLANK);
        Check.same("load()", x.load(), 0);
        Check.same("cash()", x.cash(), 234);
        Check.same("classBySugar(7)", x.classBySugar(7), 0);
        Check.same("classBySugar(6)", x.classBySugar(6), -1);
    }

    @Sentence(of = "Promise 2", says = "Appends 20 bytes to the input buffer")
    static void promise2BytesOf128AndMoreSpoilNoOtherByte() {
        for (int place = 0; place < 20; place++) {
            WineCooperative x = new WineCooperative();
            appendOne(x, place, 255);
            x.load();
            Check.same("errorOffset() of 255 at " + place, x.errorOffset(), place);
            appendOne(x, place, 128);
            x.load();
            Check.same("errorOffset() of 128 at " + place, x.errorOffset(), place);
        }
    }

    @Sentence(of = "Promise 2", says = "Appends 20 bytes to the input buffer")
    static void promise2BehindTheBytesThatAreThere() {
        for (int calls = 0; calls < 30; calls++) {
            WineCooperative x = filled(calls);
            appendOne(x, 19, 'x');
            x.load();
            Check.same("errorOffset()", x.errorOffset(), 20 * calls + 19);
        }
        WineCooperative x = filled(1);
        x.truncate(7);
        appendOne(x, 0, 'x');
        x.load();
        Check.same("errorOffset()", x.errorOffset(), 7);
    }

    @Sentence(of = "Promise 2", says = "Returns the new length of the buffer.")
    static void promise2ReturnsTheNewLength() {
        WineCooperative x = new WineCooperative();
        for (int length = 20; length <= 600; length += 20) {
            Check.same("append", appendBlanks(x), length);
        }
        x.truncate(1);
        Check.same("append to 1", appendBlanks(x), 21);
    }

    @Sentence(of = "Promise 2", says = "Throws `IllegalStateException` if the buffer would hold more than 600 bytes")
    static void promise2ThrowsAbove600Bytes() {
        WineCooperative x = filled(30);
        Check.state("append to 600", () -> appendBlanks(x));
        x.truncate(581);
        Check.state("append to 581", () -> appendBlanks(x));
        x.truncate(580);
        Check.same("append to 580", appendBlanks(x), 600);
        Check.state("append to 600 again", () -> appendBlanks(x));
    }

    @Sentence(of = "Promise 2", says = "Throws `IllegalStateException` if the buffer would hold more than 600 bytes")
    static void promise2ARefusedAppendLeavesTheBufferAsItIs() {
        WineCooperative x = filled(30);
        x.truncate(590);
        Check.state("append to 590", () -> x.append(0x78787878, 0x78787878, 0x78787878, 0x78787878, 0x78787878));
        Check.argument("truncate(591)", () -> x.truncate(591));
        Check.same("truncate(590)", x.truncate(590), 590);
        x.load();
        Check.same("errorOffset()", x.errorOffset(), 590);
        Check.same("append to the emptied buffer", appendBlanks(x), 20);
    }

    @Sentence(of = "Promise 3", says = "Shortens the input buffer.")
    static void promise3WhatIsCutOffIsGone() {
        WineCooperative x = new WineCooperative();
        Check.feed(x, "cooperative 1 0;classes 60;x");
        x.truncate(27);
        Check.same("load() without the x", x.load(), 0);
        Check.feed(x, "xxxx");
        x.truncate(0);
        x.load();
        Check.same("errorOffset()", x.errorOffset(), 0);
        Check.feed(x, "     x");
        x.truncate(5);
        appendBlanks(x);
        x.load();
        Check.same("errorOffset() of blanks", x.errorOffset(), 25);
    }

    @Sentence(of = "Promise 3", says = "Returns the new length.")
    static void promise3ReturnsTheNewLength() {
        WineCooperative x = filled(30);
        for (int length : new int[] {600, 599, 599, 300, 1, 1, 0, 0}) {
            Check.same("truncate", x.truncate(length), length);
        }
    }

    @Sentence(of = "Promise 3",
            says = "Throws `IllegalArgumentException` if length is negative or greater than the current length")
    static void promise3ThrowsForANegativeLengthAndForAGreaterOne() {
        for (int length : new int[] {600, 599, 20, 1, 0}) {
            WineCooperative x = filled(30);
            x.truncate(length);
            for (int wrong : new int[] {-1, Samples.MIN, length + 1, Samples.MAX}) {
                Check.argument("truncate(" + wrong + ") of " + length, () -> x.truncate(wrong));
            }
            Check.same("the length is left", x.truncate(length), length);
        }
    }

    @Sentence(of = "Promise 4", says = "Parses the input buffer as a setup text and empties the buffer.")
    static void promise4EmptiesTheBuffer() {
        WineCooperative x = new WineCooperative();
        Check.load(x, Samples.NONE);
        Check.argument("truncate(1) after a good text", () -> x.truncate(1));
        Check.load(x, Samples.NONE + "x");
        Check.argument("truncate(1) after a wrong text", () -> x.truncate(1));
        Check.same("append", appendBlanks(x), 20);
        x.load();
        Check.same("load() of nothing", x.load(), -7);
        Check.same("errorOffset()", x.errorOffset(), 0);
    }

    @Sentence(of = "Promise 4", says = "If the text has no error, the state described by it replaces the current one.")
    static void promise4ATextReplacesAllOfTheState() {
        WineCooperative x = Samples.wide(20, 12);
        Check.load(x, Samples.NONE);
        Check.same("the least state", Fingerprint.of(x), Fingerprint.of(Samples.none()));
        WineCooperative y = Samples.base("load 0 9 80;bottle 0 3;sell 0 1 1;");
        Check.load(y, Samples.ONE);
        Check.same("a small state", Fingerprint.of(y), Fingerprint.of(Samples.one()));
    }

    @Sentence(of = "Promise 4", says = "If the text has no error, the state described by it replaces the current one.")
    static void promise4NothingOfAnEarlierTextIsLeft() {
        String least = "cooperative 10 1000;classes 80 50;variety red;grower ann;plot ann red 10;tank 100;load 0 9 80;";
        for (String earlier : new String[] {Samples.BASE + "load 0 9 80;pay ann;bottle 0 9;sell 0 9 7;",
            Samples.BASE + "load 0 9 80;pay ann;bottle 0 3;x"}) {
            WineCooperative x = new WineCooperative();
            Check.load(x, earlier);
            Check.same("load()", Check.load(x, least), 1);
            Check.same("the state after " + earlier, Fingerprint.of(x), Fingerprint.of(Check.loaded(least)));
            Check.same("isPaid(0)", x.isPaid(0), false);
        }
    }

    @Sentence(of = "Promise 4", says = "If the text has no error, the state described by it replaces the current one.")
    static void promise4ATextWithAnErrorReplacesNothing() {
        String text = Samples.BASE + "load 0 9 80;bottle 0 3;";
        for (String wrong : new String[] {"", "x", Samples.WIDE + "x", Samples.BASE + "load 1 9 80;sell 0 1 1;"}) {
            WineCooperative x = Check.loaded(text);
            Check.same("load()", Check.load(x, wrong), -7);
            Check.same("the state", Fingerprint.of(x), Fingerprint.of(Check.loaded(text)));
            Check.same("undo: no change was added", x.undo(), 0);
        }
    }

    @Sentence(of = "Promise 4", says = "The saved states, the output text and the earlier changes")
    static void promise4TheSavedStatesAreKept() {
        WineCooperative x = new WineCooperative();
        x.save(0);
        x.setPrice(0, 0, 1);
        x.save(1);
        Check.load(x, Samples.NONE);
        Check.load(x, "x");
        Check.same("restore(0)", x.restore(0), 5000);
        Check.same("price(0, 0)", x.price(0, 0), 12);
        x.restore(1);
        Check.same("price(0, 0)", x.price(0, 0), 1);
    }

    @Sentence(of = "Promise 4", says = "The saved states, the output text and the earlier changes")
    static void promise4TheOutputTextIsKept() {
        WineCooperative x = new WineCooperative();
        int length = x.printTanks();
        Check.load(x, Samples.NONE);
        Check.load(x, "x");
        Check.same("outputByte(0)", x.outputByte(0), (int) '6');
        Check.same("the last byte", x.outputByte(length - 1), (int) 'd');
        Check.element("the byte behind it", () -> x.outputByte(length));
    }

    @Sentence(of = "Promise 4", says = "The saved states, the output text and the earlier changes")
    static void promise4TheEarlierChangesAreKept() {
        WineCooperative x = new WineCooperative();
        x.setPrice(0, 0, 1);
        x.setPrice(0, 0, 2);
        Check.load(x, Samples.NONE);
        Check.load(x, "x");
        Check.same("undo of the load", x.undo(), 2);
        Check.same("price(0, 0)", x.price(0, 0), 2);
        Check.same("undo", x.undo(), 1);
        Check.same("price(0, 0)", x.price(0, 0), 1);
        Check.same("undo", x.undo(), 0);
        Check.same("price(0, 0)", x.price(0, 0), 12);
    }

    @Sentence(of = "Promise 4", says = "The saved states, the output text and the earlier changes")
    static void promise4ALoadAfterSixChangesDropsTheEarliest() {
        WineCooperative x = new WineCooperative();
        for (int cents = 1; cents <= 6; cents++) {
            x.setPrice(0, 0, cents);
        }
        Check.load(x, Samples.NONE);
        for (int left = 5; left >= 0; left--) {
            Check.same("undo", x.undo(), left);
            Check.same("price(0, 0)", x.price(0, 0), left + 1);
        }
        Check.state("undo", x::undo);
    }

    @Sentence(of = "Promise 4", says = "Returns the number of loads, or PARSE_ERROR if the text has an error.")
    static void promise4ReturnsTheNumberOfLoads() {
        WineCooperative x = new WineCooperative();
        Check.same("no loads", Check.load(x, Samples.BASE), 0);
        Check.same("one load", Check.load(x, Samples.ONE), 1);
        Check.same("20 loads", Check.load(x, Samples.BASE + Samples.times(20, "load 0 1 80;")), 20);
        Check.same("an error", Check.load(x, Samples.BASE + "load 0 1 80;x"), WineCooperative.PARSE_ERROR);
        Check.same("loadCount() after the error", x.loadCount(), 20);
    }

    @Sentence(of = "Promise 5", says = "Returns the error code of the latest call of load")
    static void promise5TheErrorCodeOfTheLatestLoad() {
        WineCooperative x = new WineCooperative();
        String[] texts = {"", "cooperative 0", "cooperative 1 0;classes 1 1", Samples.NONE + "pay a", Samples.NONE
                + Samples.times(6, "tank 1;"), Samples.BASE + "pay ann;"};
        for (int code = 1; code <= 6; code++) {
            Check.load(x, texts[code - 1]);
            Check.same("errorCode()", x.errorCode(), code);
        }
        Check.load(x, texts[1]);
        Check.same("errorCode() of the latest one", x.errorCode(), 2);
        x.setPrice(0, 0, 1);
        appendBlanks(x);
        Check.same("errorCode() after other calls", x.errorCode(), 2);
    }

    @Sentence(of = "Promise 5", says = "0 if it succeeded or if there was none.")
    static void promise5TheErrorCodeIs0WithoutAnError() {
        WineCooperative x = new WineCooperative();
        Check.same("errorCode() without a load", x.errorCode(), 0);
        Check.load(x, Samples.NONE);
        Check.same("errorCode() of a success", x.errorCode(), 0);
        Check.load(x, "cooperative 0");
        Check.load(x, Samples.NONE);
        Check.same("errorCode() of a success after an error", x.errorCode(), 0);
    }

    @Sentence(of = "Promise 6", says = "Returns the error offset of the latest call of load")
    static void promise6TheErrorOffsetOfTheLatestLoad() {
        WineCooperative x = filled(30);
        x.load();
        Check.same("errorOffset() at the end of 600 bytes", x.errorOffset(), 600);
        x.load();
        Check.same("errorOffset() of an empty text", x.errorOffset(), 0);
        Check.load(x, "cooperative 0");
        Check.same("errorOffset()", x.errorOffset(), 12);
        x.setPrice(0, 0, 1);
        appendBlanks(x);
        Check.same("errorOffset() after other calls", x.errorOffset(), 12);
    }

    @Sentence(of = "Promise 6", says = "-1 if it succeeded or if there was none.")
    static void promise6TheErrorOffsetIsMinus1WithoutAnError() {
        WineCooperative x = new WineCooperative();
        Check.same("errorOffset() without a load", x.errorOffset(), -1);
        Check.load(x, Samples.NONE);
        Check.same("errorOffset() of a success", x.errorOffset(), -1);
        Check.load(x, "cooperative 0");
        Check.load(x, Samples.NONE);
        Check.same("errorOffset() of a success after an error", x.errorOffset(), -1);
    }
}
