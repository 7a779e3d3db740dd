/** The boundary cases of the setup text in "Terms": tokens, statements, the first error and its offset. */
final class SetupBoundaryTests {
    private static final String HEAD = Setups.HEAD;
    private static final String BASE = Setups.BASE;
    private static final String CELLAR = BASE + "load 0 9 90;bottle 0 3;";
    private static final String[] STATEMENTS = {"variety w", "price red 0 1", "grower carl", "plot ann red 1", "tank 1",
        "load 0 1 90", "bottle 0 1", "sell 0 1 1", "pay ann", "pump 0 1"};

    private SetupBoundaryTests() {
    }

    public static void main(String[] args) {
        Sentences.run(SetupBoundaryTests.class);
    }

    private static String filledTo(int length, String text, char sign) {
        StringBuilder all = new StringBuilder(text);
        while (all.length() < length) {
            all.append(sign);
        }
        return all.toString();
    }

    @Sentence(of = "Terms", says = "The input buffer holds at most 600 bytes.")
    static void termsATextOf600Bytes() {
        Setups.error(1, filledTo(593, HEAD, ' ') + "variety^");
        Setups.good(0, filledTo(600, HEAD + "variety a;", ' '));
        Setups.good(0, filledTo(590, HEAD, '\n') + "variety a;");
        Setups.error(1, filledTo(591, HEAD, '\n') + "variety a^");
        WineCooperative x = new WineCooperative();
        Check.feed(x, filledTo(600, HEAD, ' '));
        Check.state("620 bytes", () -> x.append(0x20202020, 0x20202020, 0x20202020, 0x20202020, 0x20202020));
    }

    @Sentence(of = "Terms", says = "A token is a word (a longest run of the letters a to z)")
    static void termsAWordIsALongestRunOfLetters() {
        Setups.good(0, HEAD + "variety az;variety za;grower a;grower z;");
        Setups.error(1, HEAD + "^varietyred;");
        Setups.error(2, HEAD + "variety ^abcde;");
        Setups.error(1, HEAD + "^vari ety red;");
        for (char sign : new char[] {'`', '{', 'A', 'Z', '@', '[', '_', '-', (char) 0xe9}) {
            Setups.error(1, HEAD + "variety a^" + sign + "b;");
        }
    }

    @Sentence(of = "Terms", says = "a number (a longest run of digits, of any length)")
    static void termsANumberIsALongestRunOfDigits() {
        Setups.good(0, "cooperative 10 98765;classes 43 21 0;");
        Setups.error(1, HEAD + "tank 1 ^2;");
        Setups.error(2, HEAD + "tank ^99999;");
        for (char sign : new char[] {'/', ':', '-', '+', '.', ','}) {
            Setups.error(1, HEAD + "tank 1^" + sign + "2;");
            Setups.error(1, HEAD + "tank ^" + sign + "2;");
        }
    }

    @Sentence(of = "Terms", says = "a number (a longest run of digits, of any length)")
    static void termsANumberOfAnyLength() {
        String zeros = Samples.times(500, "0");
        Check.same("501 digits", Check.loaded("cooperative " + zeros + "7 3;classes 1;").cash(), 3);
        Check.same("room of a tank", Check.loaded(HEAD + "variety v;tank " + zeros + "20000;").greatestLoad(0), 5000);
        Setups.error(2, "cooperative ^" + Samples.times(500, "9") + " 0;classes 1;");
        Setups.error(2, "cooperative ^1" + zeros + " 0;classes 1;");
        Setups.error(2, "cooperative ^" + zeros + " 0;classes 1;");
    }

    @Sentence(of = "Terms", says = "a number (a longest run of digits, of any length)")
    static void termsANumberDoesNotWrapAround() {
        for (String number : new String[] {"257", "65537", "2147483647", "2147483648", "4294967296", "4294967297",
            "8589934593", "18446744073709551615", "18446744073709551616", "18446744073709551617",
            "340282366920938463463374607431768211457", "1000000", "10000000", "1000001"}) {
            Setups.error(2, "cooperative ^" + number + " 0;classes 1;");
            Setups.error(2, BASE + "load ^" + number + " 1 90;");
        }
        Setups.error(2, "cooperative 1 ^4294967296;classes 1;");
        Setups.error(2, "cooperative 1 0;classes ^4294967296;");
    }

    @Sentence(of = "Terms", says = "A token is a word (a longest run of the letters a to z)")
    static void termsASemicolonIsATokenOfItsOwn() {
        Setups.good(0, "cooperative 1 0 ;classes 1 ;variety a ; grower b\n;");
        Setups.good(0, "cooperative1 0;classes1;variety a;grower b;plot b a1;tank1;");
        Setups.error(1, HEAD + "variety a;^;");
        Setups.error(1, HEAD + "^;");
        Setups.error(1, HEAD + "variety^;red;");
    }

    @Sentence(of = "Terms", says = "Spaces (32) and line feeds (10) only separate tokens.")
    static void termsSpacesAndLineFeedsOnlySeparate() {
        Setups.good(0, "\n \ncooperative\n\n10   \n100\n;\n\n  classes\n90 75\n60\n ;\n \n");
        Setups.error(1, "^coop erative 1 0;");
        Setups.error(1, "^coop\nerative 1 0;");
        Setups.error(1, "cooperative 1 0 ^0;");
        Setups.error(1, "cooperative 1 0\n^0;");
        Setups.good(0, "cooperative 1 00;classes 1;");
    }

    @Sentence(of = "Terms", says = "Spaces (32) and line feeds (10) only separate tokens.")
    static void termsNoOtherByteSeparates() {
        for (int sign : new int[] {0, 1, 9, 11, 12, 13, 31, 33, 42, 127, 128, 133, 138, 160, 255}) {
            Setups.error(1, "cooperative^" + (char) sign + "1 0;classes 1;");
            Setups.error(1, HEAD + "^" + (char) sign);
            Setups.error(1, "^" + (char) sign + HEAD);
        }
    }

    @Sentence(of = "Terms", says = "Each statement ends with a semicolon:")
    static void termsEachStatementEndsWithASemicolon() {
        for (String statement : STATEMENTS) {
            Setups.good(statement.startsWith("load") ? 2 : 1, CELLAR + statement + ";");
            Setups.error(1, CELLAR + statement + "^");
            Setups.error(1, CELLAR + statement + " ^pay ann;");
            Setups.error(1, CELLAR + statement + " ^0;");
        }
        Setups.error(1, "cooperative 1 0^");
        Setups.error(1, "cooperative 1 0 ^classes 1;");
        Setups.error(1, "cooperative 1 0;classes 1^");
        Setups.error(1, "cooperative 1 0;classes 1 ^variety a;");
    }

    @Sentence(of = "Terms", says = "cooperative YIELD CASH: the yield and the cash (0 to 99999).")
    static void termsCashOfTheTextFrom0To99999() {
        Check.same("cash 0", Check.loaded("cooperative 1 0;classes 1;").cash(), 0);
        Check.same("cash 99999", Check.loaded("cooperative 1 99999;classes 1;").cash(), 99999);
        Setups.error(2, "cooperative 1 ^100000;classes 1;");
    }

    @Sentence(of = "Terms", says = "This is the first statement, and it occurs only there.")
    static void termsCooperativeIsTheFirstStatementOnly() {
        Setups.error(1, "^classes 1;cooperative 1 0;");
        Setups.error(1, "^variety a;");
        Setups.error(1, "cooperative 1 0;^cooperative 1 0;classes 1;");
        Setups.error(1, "cooperative 1 0;classes 1;^cooperative 1 0;");
        Setups.error(1, "cooperative 1 0;classes 1;variety a;^cooperative 1 0;");
    }

    @Sentence(of = "Terms", says = "classes SUGAR ...: the lowest sugars of 1 to 4 classes.")
    static void termsClassesOf1To4Sugars() {
        Setups.error(1, "cooperative 1 0;classes^");
        Setups.error(1, "cooperative 1 0;classes ^;");
        Setups.error(1, "cooperative 1 0;classes ^variety a;");
        Check.same("1 class", Check.loaded("cooperative 1 0;classes 4;").classCount(), 1);
        Check.same("4 classes", Check.loaded("cooperative 1 0;classes 4 3 2 1;").classCount(), 4);
        Setups.error(5, "cooperative 1 0;classes 4 3 2 1 ^0;");
    }

    @Sentence(of = "Terms", says = "This is the second statement, and it occurs only there.")
    static void termsClassesIsTheSecondStatementOnly() {
        Setups.error(1, "cooperative 1 0;^");
        Setups.error(1, "cooperative 1 0;^variety a;classes 1;");
        Setups.error(1, "cooperative 1 0;classes 1;^classes 1;");
        Setups.error(1, "cooperative 1 0;classes 1;variety a;^classes 1;");
    }

    @Sentence(of = "Terms", says = "variety NAME: a variety.")
    static void termsVarietyStatement() {
        Check.same("varietyCount()", Check.loaded(HEAD + "variety a;variety b;").varietyCount(), 2);
        Setups.error(1, HEAD + "variety ^0;");
        Setups.error(1, HEAD + "variety ^;");
        Setups.error(1, HEAD + "variety a ^b;");
        Setups.good(0, HEAD + "variety tank;variety pay;grower sell;");
    }

    @Sentence(of = "Terms", says = "price VARIETY CLASS CENTS: the price of a variety (a name) and a class (a number).")
    static void termsPriceStatement() {
        WineCooperative x = Check.loaded(BASE + "price rose 2 999;price red 0 1;");
        Check.same("price(1, 2)", x.price(1, 2), 999);
        Check.same("price(0, 0)", x.price(0, 0), 1);
        Check.same("the latest price", Check.loaded(BASE + "price red 0 5;price red 0 4;").price(0, 0), 4);
        Setups.error(1, BASE + "price ^0 0 1;");
        Setups.error(1, BASE + "price red ^red 1;");
        Setups.error(1, BASE + "price red 0 ^;");
        Setups.error(2, BASE + "price red ^3 1;");
    }

    @Sentence(of = "Terms", says = "grower NAME: a grower.")
    static void termsGrowerStatement() {
        Check.same("growerCount()", Check.loaded(HEAD + "grower a;grower b;").growerCount(), 2);
        Setups.error(1, HEAD + "grower ^0;");
        Setups.error(1, HEAD + "grower ^;");
        Setups.error(1, HEAD + "grower a ^b;");
    }

    @Sentence(of = "Terms", says = "plot GROWER VARIETY AREA: a plot of a grower (a name) with a variety (a name).")
    static void termsPlotStatement() {
        WineCooperative x = Check.loaded(BASE + "plot bert red 7;load 2 5 90;");
        Check.same("plotsOf(1)", x.plotsOf(1), 2);
        Check.same("varietyIn(0)", x.varietyIn(0), 0);
        Check.same("yieldLimit(2)", x.yieldLimit(2), 70);
        Setups.error(1, BASE + "plot ^0 red 1;");
        Setups.error(1, BASE + "plot ann ^0 1;");
        Setups.error(1, BASE + "plot ann red ^red;");
        Setups.error(4, BASE + "plot ^red ann 1;");
    }

    @Sentence(of = "Terms", says = "tank CAPACITY: a tank.")
    static void termsTankStatement() {
        WineCooperative x = Check.loaded(HEAD + "variety v;tank 1;tank 20000;");
        Check.same("tankFor(0, 1)", x.tankFor(0, 1), 0);
        Check.same("tankFor(0, 2)", x.tankFor(0, 2), 1);
        Setups.error(1, HEAD + "tank ^;");
        Setups.error(1, HEAD + "tank ^a;");
        Setups.error(1, HEAD + "tank 1 ^1;");
    }

    @Sentence(of = "Terms", says = "load PLOT WEIGHT SUGAR: a load from a plot is delivered.")
    static void termsLoadStatement() {
        WineCooperative x = Check.loaded(BASE + "load 1 90 90;load 1 1 90;");
        Check.same("plotOfLoad(0)", x.plotOfLoad(0), 1);
        Check.same("classOfLoad(0)", x.classOfLoad(0), 0);
        Check.same("classOfLoad(1) above the yield limit", x.classOfLoad(1), 2);
        Check.same("the tanks", Check.output(x), "91:rose 0");
        Setups.error(1, BASE + "load ^ann 1 90;");
        Setups.error(1, BASE + "load 1 ^;");
        Setups.error(1, BASE + "load 1 1 ^;");
        Setups.error(2, BASE + "load ^2 1 90;");
        Setups.error(2, BASE + "load 0 ^0 90;");
        Setups.error(2, BASE + "load 0 ^5001 90;");
        Setups.error(2, BASE + "load 0 1 ^251;");
        Setups.good(1, BASE + "load 0 1 250;");
    }

    @Sentence(of = "Terms", says = "bottle TANK BOTTLES: wine is bottled as by the method bottle, 1 to 20000 bottles.")
    static void termsBottleStatementOf1To20000() {
        WineCooperative x = Check.loaded(CELLAR + "bottle 0 1;");
        Check.same("unsold(1)", x.unsold(1), 1);
        Check.same("content(0)", x.content(0), 5);
        String five = Samples.HUGE + "load 0 5000 0;pump 0 4;";
        Check.same("the last tank of five", Check.loaded(five + "bottle 4 9;").content(4), 4991);
        Setups.error(2, five + "bottle ^5 1;");
        WineCooperative huge = Check.loaded(Samples.HUGE + Samples.times(4, "load 0 5000 0;") + "bottle 0 20000;");
        Check.same("unsold(0)", huge.unsold(0), 20000);
        Setups.error(2, CELLAR + "bottle 0 ^0;");
        Setups.error(2, CELLAR + "bottle 0 ^20001;");
        Setups.error(2, CELLAR + "bottle ^2 1;");
        Setups.error(6, CELLAR + "bottle 0 20000^;");
    }

    @Sentence(of = "Terms", says = "sell LOT BOTTLES CENTS: bottles are sold as by the method sell")
    static void termsSellStatementOf1To20000For1To9999() {
        WineCooperative x = Check.loaded(CELLAR + "sell 0 1 9999;sell 0 1 1;");
        Check.same("cash()", x.cash(), 100 + 9999 + 1);
        Check.same("unsold(0)", x.unsold(0), 1);
        WineCooperative huge = Check.loaded(Samples.HUGE + Samples.times(4, "load 0 5000 0;")
                + "bottle 0 20000;sell 0 20000 9999;");
        Check.same("cash()", huge.cash(), 99999 + 20000 * 9999);
        String twelve = BASE + "load 0 19 90;" + Samples.times(12, "bottle 0 1;");
        Check.same("the last lot of twelve", Check.loaded(twelve + "sell 11 1 7;").unsold(11), 0);
        Setups.error(2, twelve + "sell ^12 1 7;");
        Setups.error(2, CELLAR + "sell 0 ^0 1;");
        Setups.error(2, CELLAR + "sell 0 ^20001 1;");
        Setups.error(6, CELLAR + "sell 0 20000 1^;");
        Setups.error(2, CELLAR + "sell 0 1 ^0;");
        Setups.error(2, CELLAR + "sell 0 1 ^10000;");
        Setups.error(2, CELLAR + "sell ^1 1 1;");
    }

    @Sentence(of = "Terms", says = "pay GROWER: a grower (a name) is paid as by the method payGrower.")
    static void termsPayStatement() {
        WineCooperative x = Check.loaded(BASE + "price red 0 10;load 0 10 90;pay ann;");
        Check.same("cash() of just enough", x.cash(), 0);
        Check.same("isPaid(0)", x.isPaid(0), true);
        Check.same("a load of no value", Check.loaded(BASE + "load 0 1 90;pay ann;").isPaid(0), true);
        Setups.error(1, BASE + "load 0 1 90;pay ^0;");
        Setups.error(4, BASE + "load 0 1 90;pay ^red;");
    }

    @Sentence(of = "Terms", says = "pump TANK TANK: wine is pumped from the first tank into the second one")
    static void termsPumpStatement() {
        Check.same("the tanks", Check.output(Check.loaded(BASE + "load 0 100 90;pump 0 1;")), "0 100:red");
        Check.same("just enough room", Check.output(Check.loaded(BASE + "load 0 150 90;bottle 1 50;pump 1 0;")),
                "100:red 0");
        String five = Samples.HUGE + "load 0 9 90;";
        Check.same("the last tank of five", Check.loaded(five + "pump 0 4;").content(4), 9);
        Check.same("from the last tank of five", Check.loaded(five + "pump 0 4;pump 4 3;").content(3), 9);
        Setups.error(2, five + "pump 0 ^5;");
        Setups.error(2, five + "pump ^5 0;");
        Setups.error(2, BASE + "load 0 1 90;pump 0 ^2;");
        Setups.error(2, BASE + "load 0 1 90;pump ^2 0;");
        Setups.error(1, BASE + "load 0 1 90;pump 0 ^;");
    }

    @Sentence(of = "Terms", says = "The statements are carried out in order.")
    static void termsStatementsAreCarriedOutInOrder() {
        Setups.error(4, HEAD + "price ^red 0 1;variety red;");
        Setups.error(4, HEAD + "variety red;plot ^ann red 1;grower ann;");
        Setups.error(6, HEAD + "variety v;grower g;plot g v 1;load 0 1 90^;tank 9;");
        Setups.error(2, HEAD + "variety v;grower g;tank 9;load ^0 1 90;plot g v 1;");
        Setups.error(2, BASE + "bottle ^2 1;tank 9;");
        Setups.error(2, BASE + "load 0 9 90;sell ^0 1 1;bottle 0 1;");
        WineCooperative x = Check.loaded(BASE + "price red 0 3;load 0 10 90;pay ann;price red 0 7;load 0 10 90;");
        Check.same("valueOf(0)", x.valueOf(0), 30);
        Check.same("valueOf(1)", x.valueOf(1), 70);
    }

    @Sentence(of = "Terms", says = "Parsing stops at the first token that has an error")
    static void termsParsingStopsAtTheFirstError() {
        Setups.error(2, "cooperative ^0 100000;classes 201;");
        Setups.error(4, BASE + "price ^x 9 1000 1000;;");
        Setups.error(6, BASE + "bottle 0 1^;variety abcde;");
        Setups.error(2, BASE + "load ^9 0 251 1");
        Setups.error(5, HEAD + "tank 1;tank 1;tank 1;tank 1;tank 1;^tank 0");
    }

    @Sentence(of = "Terms", says = "if a token has several errors, the smallest error code is reported.")
    static void termsTheSmallestErrorCodeIsReported() {
        Setups.error(2, "cooperative 1 0;classes 9 ^201;");
        Setups.error(2, "cooperative 1 0;classes 9 8 7 6 ^201;");
        Setups.error(3, "cooperative 1 0;classes 9 8 7 6 ^6;");
        Setups.error(1, "cooperative 1 0;classes 9 8 7 6 ^variety");
        Setups.error(1, HEAD + "tank 1;tank 1;tank 1;tank 1;tank 1;^tanks 1;");
        Setups.error(2, BASE + "pump ^2 2;");
    }

    @Sentence(of = "Terms", says = "The error offset is the offset of the first byte of the token.")
    static void termsTheOffsetOfTheFirstByteOfTheToken() {
        Setups.error(1, "^c");
        Setups.error(1, " \n ^cooperatives 1 0;");
        Setups.error(2, "cooperative   ^000201 0;");
        Setups.error(2, HEAD + "variety\n\n ^abcdefghi;");
        Setups.error(6, BASE + "load 0 1 59  \n ^;");
        Setups.error(1, filledTo(599, HEAD, ' ') + "^;");
    }

    @Sentence(of = "Terms", says = "At the end of the text it is the length of the text.")
    static void termsTheOffsetAtTheEndIsTheLength() {
        Setups.error(1, "^");
        Setups.error(1, " ^");
        Setups.error(1, "\n^");
        Setups.error(1, "cooperative^");
        Setups.error(1, "cooperative \n ^");
        Setups.error(1, HEAD + "variety ^");
        Setups.error(1, filledTo(600, HEAD + "variety", ' ') + "^");
        Setups.error(1, filledTo(600, "", ' ') + "^");
    }

    @Sentence(of = "Terms", says = "1: the token is not allowed here by the form above")
    static void termsError1IsATokenThatIsNotAllowedHere() {
        Setups.error(1, "^0");
        Setups.error(1, "cooperative ^a 0;");
        Setups.error(1, HEAD + "^x;");
        Setups.error(1, HEAD + "^prices");
        Setups.error(1, HEAD + "^xrice red 0 1;");
        Setups.error(1, "^xooperative 1 0;");
        Setups.error(1, "cooperative 1 0;^xlasses 1;");
        for (String statement : STATEMENTS) {
            String start = CELLAR;
            for (String word : statement.split(" ")) {
                Setups.error(1, start + "^: " + word);
                Setups.error(1, start + "^;");
                start = start + word + " ";
            }
        }
    }

    @Sentence(of = "Terms", says = "the text ends too early, or the text is empty.")
    static void termsError1IsATextThatEndsTooEarly() {
        for (String statement : STATEMENTS) {
            String start = CELLAR;
            for (String word : statement.split(" ")) {
                Setups.error(1, start + word + "^");
                Setups.error(1, start + word + "\n^");
                start = start + word + " ";
            }
        }
        Setups.error(1, "cooperative^");
        Setups.error(1, "cooperative 1^");
        Setups.error(1, "cooperative 1 0^");
        Setups.error(1, "cooperative 1 0;^");
        Setups.error(1, "cooperative 1 0;classes^");
        Setups.error(1, "cooperative 1 0;classes 1^");
        Setups.good(0, "cooperative 1 0;classes 1;");
    }

    @Sentence(of = "Terms", says = "the text ends too early, or the text is empty.")
    static void termsError1IsAnEmptyText() {
        WineCooperative x = new WineCooperative();
        Check.same("load()", x.load(), -7);
        Check.same("errorCode()", x.errorCode(), 1);
        Check.same("errorOffset()", x.errorOffset(), 0);
        Setups.error(1, " ^");
        Setups.error(1, "\n\n^");
    }

    @Sentence(of = "Terms", says = "2: a number is out of range")
    static void termsError2IsANumberOutOfRange() {
        Setups.error(2, "cooperative ^0 0;");
        Setups.error(2, "cooperative ^201 0;");
        Setups.error(2, "cooperative 1 ^100000;");
        Setups.error(2, "cooperative 1 0;classes ^201;");
        Setups.error(2, BASE + "price red 0 ^1000;");
        Setups.error(2, BASE + "plot ann red ^0;");
        Setups.error(2, BASE + "plot ann red ^100;");
        Setups.error(2, BASE + "tank ^0;");
        Setups.error(2, BASE + "tank ^20001;");
        Setups.error(2, BASE + "load 0 ^0 90;");
        Setups.error(2, BASE + "load 0 ^5001 90;");
        Setups.error(2, BASE + "load 0 1 ^251;");
        Setups.error(2, CELLAR + "bottle 0 ^0;");
        Setups.error(2, CELLAR + "bottle 0 ^20001;");
        Setups.error(2, CELLAR + "sell 0 ^0 1;");
        Setups.error(2, CELLAR + "sell 0 ^20001 1;");
        Setups.error(2, CELLAR + "sell 0 1 ^0;");
        Setups.error(2, CELLAR + "sell 0 1 ^10000;");
    }

    @Sentence(of = "Terms", says = "(also the number of a class, plot, tank or lot that does not exist)")
    static void termsError2IsANumberOfNothing() {
        Setups.good(0, BASE + "price red 2 1;");
        Setups.error(2, BASE + "price red ^3 1;");
        Setups.good(1, BASE + "load 1 1 90;");
        Setups.error(2, BASE + "load ^2 1 90;");
        Setups.error(2, HEAD + "tank 9;load ^0 1 90;");
        Setups.good(1, BASE + "tank 9;load 1 150 90;bottle 1 1;");
        Setups.error(2, BASE + "bottle ^2 1;");
        Setups.error(2, HEAD + "bottle ^0 1;");
        Setups.good(1, CELLAR + "bottle 0 1;sell 1 1 1;");
        Setups.error(2, CELLAR + "sell ^1 1 1;");
        Setups.error(2, BASE + "sell ^0 1 1;");
        Setups.good(1, BASE + "load 0 150 90;bottle 1 50;pump 1 0;");
        Setups.error(2, CELLAR + "pump ^2 0;");
        Setups.error(2, CELLAR + "pump 0 ^2;");
        Setups.error(2, HEAD + "pump ^0 1;");
    }

    @Sentence(of = "Terms", says = "or the NAME of a new variety or grower has more than 4 letters.")
    static void termsError2IsANameOfMoreThan4Letters() {
        Setups.good(0, HEAD + "variety abcd;grower efgh;");
        Setups.error(2, HEAD + "variety ^abcde;");
        Setups.error(2, HEAD + "grower ^abcde;");
        Setups.error(2, HEAD + "variety ^" + Samples.times(500, "a") + ";");
        Setups.error(2, HEAD + "grower ^" + Samples.times(32, "z") + ";");
    }

    @Sentence(of = "Terms", says = "3: the NAME of a new variety or grower that another one of them has")
    static void termsError3IsANameThatAnotherOneHas() {
        Setups.error(3, BASE + "variety ^red;");
        Setups.error(3, BASE + "variety ^rose;");
        Setups.error(3, BASE + "variety ^bert;");
        Setups.error(3, BASE + "grower ^ann;");
        Setups.error(3, BASE + "grower ^bert;");
        Setups.error(3, BASE + "grower ^rose;");
        Setups.good(0, BASE + "variety re;variety ros;grower anna;grower ber;");
    }

    @Sentence(of = "Terms", says = "a SUGAR of a class that is not less than the one before")
    static void termsError3IsASugarThatIsNotLess() {
        Setups.good(0, "cooperative 1 0;classes 9 8;");
        Setups.error(3, "cooperative 1 0;classes 9 ^9;");
        Setups.error(3, "cooperative 1 0;classes 9 ^10;");
        Setups.error(3, "cooperative 1 0;classes 9 8 ^8;");
        Setups.error(3, "cooperative 1 0;classes 9 8 7 ^200;");
    }

    @Sentence(of = "Terms", says = "or the second TANK of a pump statement that is the first one.")
    static void termsError3IsTheSameTankTwice() {
        Setups.error(3, BASE + "load 0 1 90;pump 0 ^0;");
        Setups.error(3, BASE + "pump 1 ^1;");
        Setups.error(3, BASE + "pump 1 ^001");
        Setups.good(1, BASE + "load 0 1 90;pump 0 1;");
    }

    @Sentence(of = "Terms", says = "4: the name of a variety or grower that does not exist, or that is of the other kind.")
    static void termsError4IsANameOfNothing() {
        Setups.error(4, BASE + "price ^blue 0 1;");
        Setups.error(4, BASE + "price ^re 0 1;");
        Setups.error(4, BASE + "price ^reds 0 1;");
        Setups.error(4, BASE + "price ^roses 0 1;");
        Setups.error(4, BASE + "plot ^carl red 1;");
        Setups.error(4, BASE + "plot ann ^blue 1;");
        Setups.error(4, BASE + "plot ^annann red 1;");
        Setups.error(4, BASE + "load 0 1 90;pay ^anna;");
        Setups.error(4, HEAD + "pay ^a;");
        Setups.error(4, HEAD + "price ^abcde 0 1;");
    }

    @Sentence(of = "Terms", says = "4: the name of a variety or grower that does not exist, or that is of the other kind.")
    static void termsError4IsANameOfTheOtherKind() {
        Setups.error(4, BASE + "price ^ann 0 1;");
        Setups.error(4, BASE + "plot ^red red 1;");
        Setups.error(4, BASE + "plot ann ^ann 1;");
        Setups.error(4, BASE + "load 0 1 90;pay ^red;");
    }

    @Sentence(of = "Terms", says = "5: the word variety for a 5th variety")
    static void termsError5IsAVarietyTooMany() {
        String three = HEAD + "variety a;variety b;variety c;";
        Setups.good(0, three + "variety d;");
        Setups.error(5, three + "variety d;^variety e;");
        Setups.error(5, three + "variety d;^variety");
        Setups.error(5, three + "variety d;^variety a;");
    }

    @Sentence(of = "Terms", says = "grower for a 7th grower")
    static void termsError5IsAGrowerTooMany() {
        String five = HEAD + "grower a;grower b;grower c;grower d;grower e;";
        Setups.good(0, five + "grower f;");
        Setups.error(5, five + "grower f;^grower g;");
        Setups.error(5, five + "grower f;^grower 0;");
    }

    @Sentence(of = "Terms", says = "plot for a 9th plot")
    static void termsError5IsAPlotTooMany() {
        String seven = HEAD + "variety v;grower g;" + Samples.times(7, "plot g v 1;");
        Setups.good(0, seven + "plot g v 1;");
        Setups.error(5, seven + "plot g v 1;^plot g v 1;");
        Setups.error(5, seven + "plot g v 1;^plot x");
    }

    @Sentence(of = "Terms", says = "tank for a 6th tank")
    static void termsError5IsATankTooMany() {
        String four = HEAD + Samples.times(4, "tank 1;");
        Setups.good(0, four + "tank 1;");
        Setups.error(5, four + "tank 1;^tank 1;");
        Setups.error(5, four + "tank 1;^tank 0;");
    }

    @Sentence(of = "Terms", says = "or the 5th SUGAR.")
    static void termsError5IsThe5thSugar() {
        Setups.good(0, "cooperative 1 0;classes 9 8 7 6;");
        Setups.error(5, "cooperative 1 0;classes 9 8 7 6 ^5;");
        Setups.error(5, "cooperative 1 0;classes 9 8 7 6 ^5 4;");
        Setups.error(5, "cooperative 1 0;classes 9 8 7 6 ^0");
    }

    @Sentence(of = "Terms", says = "6: the semicolon of a load statement if the load is refused")
    static void termsError6IsARefusedLoad() {
        Setups.good(1, BASE + "load 0 1 60;");
        Setups.error(6, BASE + "load 0 1 59^;");
        Setups.good(1, BASE + "load 0 200 60;");
        Setups.error(6, BASE + "load 0 201 60^;");
        Setups.good(20, BASE + Samples.times(20, "load 0 1 90;"));
        Setups.error(6, BASE + Samples.times(20, "load 0 1 90;") + "load 0 1 90^;");
        Setups.error(1, BASE + "load 0 1 59 ^59;");
    }

    @Sentence(of = "Terms", says = "bottle, sell, pay or pump statement for which the method would throw")
    static void termsError6IsABottleStatementThatWouldThrow() {
        Setups.good(1, BASE + "load 0 9 90;bottle 0 9;");
        Setups.error(6, BASE + "load 0 9 90;bottle 0 10^;");
        Setups.error(6, BASE + "load 0 9 90;bottle 1 1^;");
        Setups.good(1, BASE + "load 0 19 90;" + Samples.times(12, "bottle 0 1;"));
        Setups.error(6, BASE + "load 0 19 90;" + Samples.times(12, "bottle 0 1;") + "bottle 0 1^;");
    }

    @Sentence(of = "Terms", says = "bottle, sell, pay or pump statement for which the method would throw")
    static void termsError6IsASellStatementThatWouldThrow() {
        Setups.good(1, CELLAR + "sell 0 3 1;");
        Setups.error(6, CELLAR + "sell 0 4 1^;");
        Setups.error(6, CELLAR + "sell 0 3 1;sell 0 1 1^;");
    }

    @Sentence(of = "Terms", says = "bottle, sell, pay or pump statement for which the method would throw")
    static void termsError6IsAPayStatementThatWouldThrow() {
        Setups.error(6, BASE + "pay ann^;");
        Setups.error(6, BASE + "load 0 1 90;pay bert^;");
        Setups.error(6, BASE + "load 0 1 90;pay ann;pay ann^;");
        Setups.good(1, BASE + "price red 0 100;load 0 1 90;pay ann;");
        Setups.error(6, BASE + "price red 0 101;load 0 1 90;pay ann^;");
    }

    @Sentence(of = "Terms", says = "bottle, sell, pay or pump statement for which the method would throw")
    static void termsError6IsAPumpStatementThatWouldThrow() {
        Setups.error(6, BASE + "pump 0 1^;");
        Setups.good(1, BASE + "load 0 101 90;bottle 1 1;pump 1 0;");
        Setups.error(6, BASE + "load 0 101 90;pump 1 0^;");
        Setups.error(6, BASE + "load 0 1 90;load 1 1 90;pump 0 1^;");
        Setups.good(2, BASE + "load 0 1 90;load 1 1 90;bottle 1 1;pump 0 1;");
    }
}
