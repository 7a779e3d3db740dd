/** Setup texts: what is accepted, and the code and the offset of each error. */
final class SetupTextTests {
    private static final String HEAD = Setups.HEAD;
    private static final String BASE = Setups.BASE;

    private SetupTextTests() {
    }

    public static void main(String[] args) {
        goodTexts();
        firstStatements();
        names();
        numbers();
        tooMany();
        refusedLoads();
        impossibleStatements();
        textsThatEndTooEarly();
        oddBytes();
        unknownWords();
        failureChangesNothing();
        carriedOutInOrder();
        Check.finish("SetupTextTests");
    }

    private static void error(int code, String marked) {
        Setups.error(code, marked);
    }

    private static void good(int loads, String text) {
        Setups.good(loads, text);
    }

    private static void goodTexts() {
        Check.part("good texts");
        good(0, "cooperative 1 0;classes 0;");
        good(0, "cooperative 200 99999;classes 200 199 1 0;");
        good(0, "cooperative1 0;classes9 8 7;variety a;grower b;plot b a 99;tank 20000;");
        good(0, "\n\n cooperative\n1\n0\n;\nclasses\n0\n;\n \n");
        good(0, "cooperative 0000000000000000000000001 000000000000000000000000000000;classes 00200;");
        good(0, HEAD + "variety load;grower tank;plot tank load 1;price load 2 0;variety sell;");
        good(1, BASE + "load 0 1 60;");
        good(2, BASE + "load 0 100 250;load 1 200 60;");
        good(1, BASE + "load 0 10 90;bottle 0 10;sell 0 10 9999;pay ann;");
        good(1, BASE + "load 0 10 90;pump 0 1;pump 1 0;");
        StringBuilder full = new StringBuilder(BASE).append("load 0 1 60;");
        while (full.length() < 600) {
            full.append(' ');
        }
        good(1, full.toString());
    }

    private static void firstStatements() {
        Check.part("first statements");
        error(1, "^");
        error(1, "   ^");
        error(1, "\n\n^");
        error(1, "^;");
        error(1, "^1");
        error(1, "^classes 90;cooperative 10 100;");
        error(1, "^cooperativ 1 0;");
        error(1, "^cooperatives 1 0;");
        error(1, "^variety red;");
        error(1, "cooperative^");
        error(1, "cooperative ^");
        error(1, "cooperative ^;");
        error(1, "cooperative ^a");
        error(2, "cooperative ^0 0;");
        error(2, "cooperative ^201 0;");
        error(2, "cooperative ^4294967297 0;");
        error(2, "cooperative ^18446744073709551617 0;");
        error(1, "cooperative 1^");
        error(1, "cooperative 1 ^;");
        error(2, "cooperative 1 ^100000;");
        error(2, "cooperative 1 ^1000000;");
        error(2, "cooperative 1 ^9999999999;");
        error(1, "cooperative 1 0^");
        error(1, "cooperative 1 0 ^0;");
        error(1, "cooperative 1 0 ^classes 9;");
        error(1, "cooperative 1 0;^");
        error(1, "cooperative 1 0;^;");
        error(1, "cooperative 1 0;^variety red;");
        error(1, "cooperative 1 0;^cooperative 1 0;");
        error(1, "cooperative 1 0;^class 9;");
        error(1, "cooperative 1 0;classes^");
        error(1, "cooperative 1 0;classes ^;");
        error(1, "cooperative 1 0;classes ^red;");
        error(1, "cooperative 1 0;classes 9^");
        error(1, "cooperative 1 0;classes 9 ^red;");
        error(2, "cooperative 1 0;classes ^201;");
        error(2, "cooperative 1 0;classes 9 ^201;");
        error(3, "cooperative 1 0;classes 9 ^9;");
        error(3, "cooperative 1 0;classes 9 8 ^10;");
        error(3, "cooperative 1 0;classes 0 ^0;");
        error(5, "cooperative 1 0;classes 9 8 7 6 ^5;");
        error(3, "cooperative 1 0;classes 9 8 7 6 ^6;");
        error(2, "cooperative 1 0;classes 9 8 7 6 ^201;");
        error(1, "cooperative 1 0;classes 9 8 7 6 ^red;");
        error(1, HEAD + "^cooperative 1 0;");
        error(1, HEAD + "^classes 9;");
        error(1, HEAD + "^;");
        error(1, HEAD + "^7;");
    }

    private static void names() {
        Check.part("names");
        error(1, HEAD + "variety^");
        error(1, HEAD + "variety ^;");
        error(1, HEAD + "variety ^7;");
        error(1, HEAD + "grower ^7;");
        error(2, HEAD + "variety ^abcde;");
        error(2, HEAD + "grower ^abcdefghijklmnopqrstuvwxyz;");
        error(3, HEAD + "variety red;variety ^red;");
        error(3, HEAD + "variety red;grower ^red;");
        error(3, HEAD + "grower red;variety ^red;");
        error(3, HEAD + "grower red;grower ^red;");
        error(1, HEAD + "variety red ^red;");
        error(1, HEAD + "variety red^");
        error(1, HEAD + "grower red^");
        good(0, HEAD + "variety a;variety b;variety aa;grower ab;grower z;grower zzzz;grower aaaa;");
        error(1, BASE + "price ^;");
        error(1, BASE + "price ^0 0 1;");
        error(4, BASE + "price ^re 0 1;");
        error(4, BASE + "price ^reds 0 1;");
        error(4, BASE + "price ^abcde 0 1;");
        error(4, BASE + "price ^ann 0 1;");
        error(4, BASE + "plot ^rose red 1;");
        error(4, BASE + "plot ^berta red 1;");
        error(4, BASE + "plot bert ^bert 1;");
        error(4, BASE + "plot bert ^ross 1;");
        error(1, BASE + "plot bert ^1;");
        error(1, BASE + "plot ^1;");
        error(4, BASE + "pay ^red;");
        error(4, BASE + "pay ^x;");
        error(1, BASE + "pay ^0;");
    }

    private static void numbers() {
        Check.part("numbers");
        error(2, BASE + "price red ^3 1;");
        error(2, BASE + "price red 2 ^1000;");
        error(1, BASE + "price red ^red 1;");
        error(1, BASE + "price red 2 ^;");
        error(1, BASE + "price red 2 999 ^1;");
        good(0, BASE + "price red 2 999;");
        error(2, BASE + "plot ann red ^0;");
        error(2, BASE + "plot ann red ^100;");
        error(1, BASE + "plot ann red ^;");
        error(1, BASE + "plot ann red 99^");
        error(2, BASE + "tank ^0;");
        error(2, BASE + "tank ^20001;");
        error(1, BASE + "tank ^red;");
        error(1, BASE + "tank 1 ^1;");
        error(2, BASE + "load ^2 1 90;");
        error(2, BASE + "load 1 ^0 90;");
        error(2, BASE + "load 1 ^5001 90;");
        error(2, BASE + "load 1 1 ^251;");
        error(1, BASE + "load 1 1 90 ^1;");
        error(1, BASE + "load 1 1 ^;");
        error(1, BASE + "load 1 5000 1^");
        error(2, HEAD + "load ^0 1 1;");
        error(2, BASE + "bottle ^2 1;");
        error(2, BASE + "bottle 0 ^0;");
        error(2, BASE + "bottle 0 ^20001;");
        error(1, BASE + "bottle 0 1 ^1;");
        error(1, BASE + "bottle 0 20000 ^pay");
        error(2, BASE + "sell ^0 1 1;");
        error(2, BASE + "load 0 9 90;bottle 0 3;sell ^1 1 1;");
        error(2, BASE + "load 0 9 90;bottle 0 3;sell 0 ^0 1;");
        error(2, BASE + "load 0 9 90;bottle 0 3;sell 0 ^20001 1;");
        error(2, BASE + "load 0 9 90;bottle 0 3;sell 0 1 ^0;");
        error(2, BASE + "load 0 9 90;bottle 0 3;sell 0 1 ^10000;");
        error(1, BASE + "load 0 9 90;bottle 0 3;sell 0 1 1 ^1;");
        error(1, BASE + "load 0 9 90;bottle 0 3;sell 0 1 ^;");
        error(2, BASE + "pump ^2 0;");
        error(2, BASE + "pump 0 ^2;");
        error(2, BASE + "pump ^2 2;");
        error(3, BASE + "pump 1 ^1;");
        error(1, BASE + "pump 0 ^;");
        error(1, BASE + "pump 0 1 ^0;");
        error(1, BASE + "pump ^red 1;");
        error(1, BASE + "pump 0 ^red;");
    }

    private static void tooMany() {
        Check.part("too many");
        error(5, HEAD + "variety a;variety b;variety c;variety d;^variety e;");
        error(5, HEAD + "variety a;variety b;variety c;variety d;^variety");
        good(0, HEAD + "variety a;variety b;variety c;variety d;");
        String growers = "grower a;grower b;grower c;grower d;grower e;grower f;";
        error(5, HEAD + growers + "^grower g;");
        good(0, HEAD + growers);
        String plots = "plot a v 1;plot a v 1;plot a v 1;plot a v 1;";
        error(5, HEAD + "grower a;variety v;" + plots + plots + "^plot a v 1;");
        good(0, HEAD + "grower a;variety v;" + plots + plots);
        error(5, HEAD + "tank 1;tank 1;tank 1;tank 1;tank 1;^tank 1;");
        good(0, HEAD + "tank 1;tank 1;tank 1;tank 1;tank 1;");
    }

    private static void refusedLoads() {
        Check.part("refused loads");
        error(6, BASE + "load 0 1 59^;");
        error(6, BASE + "load 0 201 90^;");
        error(6, HEAD + "variety v;grower g;plot g v 1;load 0 1 90^;");
        String five = "load 0 1 90;load 0 1 90;load 0 1 90;load 0 1 90;load 0 1 90;";
        good(20, BASE + five + five + five + five);
        error(6, BASE + five + five + five + five + "load 0 1 90^;");
    }

    private static void impossibleStatements() {
        Check.part("impossible statements");
        error(6, BASE + "bottle 0 1^;");
        error(6, BASE + "load 0 9 90;bottle 0 10^;");
        String three = "bottle 0 1;bottle 0 1;bottle 0 1;";
        good(1, BASE + "load 0 50 90;" + three + three + three + three);
        error(6, BASE + "load 0 50 90;" + three + three + three + three + "bottle 0 1^;");
        error(6, BASE + "load 0 9 90;bottle 0 3;sell 0 4 1^;");
        error(6, BASE + "load 0 9 90;bottle 0 3;sell 0 2 1;sell 0 2 1^;");
        error(6, BASE + "pay ann^;");
        error(6, BASE + "load 0 9 90;pay ann;pay ann^;");
        error(6, BASE + "load 0 9 90;pay bert^;");
        good(1, BASE + "price red 0 10;load 0 10 90;pay ann;");
        error(6, BASE + "price red 0 10;load 0 10 90;load 0 1 90;pay ann^;");
        error(6, BASE + "pump 0 1^;");
        error(6, BASE + "load 0 9 90;load 1 9 90;pump 0 1^;");
        error(6, BASE + "load 0 150 90;pump 1 0^;");
        good(1, BASE + "load 0 150 90;bottle 1 50;pump 1 0;");
    }

    private static void textsThatEndTooEarly() {
        Check.part("texts that end too early");
        String cellar = BASE + "load 0 9 90;bottle 0 3;";
        for (String statement : new String[] {"variety w", "price red 0 1", "grower carl", "plot ann red 1", "tank 1",
            "load 0 1 90", "bottle 0 1", "sell 0 1 1", "pay ann", "pump 0 1"}) {
            good(statement.startsWith("load") ? 2 : 1, cellar + statement + ";");
            String[] words = statement.split(" ");
            String start = cellar;
            for (String word : words) {
                error(1, start + word + "^");
                start = start + word + " ";
                error(1, start + "^");
                error(1, start + (word == words[words.length - 1] ? "^pay" : "^;"));
            }
        }
    }

    private static void oddBytes() {
        Check.part("odd bytes");
        error(1, "^\t" + HEAD);
        error(1, "^\0");
        error(1, "cooperative^\r 1 0;");
        error(1, "cooperative ^-1 0;");
        error(1, "cooperative 1^,0;");
        error(1, HEAD + "^Variety red;");
        error(1, HEAD + "variety re^D;");
        error(1, HEAD + "variety r^\u00e9;");
        error(1, HEAD + "variety red;^\u00ff");
        error(1, HEAD + "variety red;^`");
        error(1, HEAD + "variety red;^{");
        error(1, HEAD + "variety red;^/");
        error(1, HEAD + "variety red;^:");
        error(2, HEAD + "variety ^abcdeF;");
        error(1, HEAD + "^\0variety red;");
    }

    private static void unknownWords() {
        Check.part("unknown words");
        for (String word : new String[] {"variety", "price", "grower", "plot", "tank", "load", "bottle", "sell", "pay",
            "pump"}) {
            error(1, HEAD + "^x" + word.substring(1));
            error(1, HEAD + "^" + word.substring(0, word.length() - 1) + "x");
            error(1, HEAD + "^" + word + "x");
            error(1, HEAD + "^" + word.substring(1));
        }
        error(1, "^xooperative 1 0;");
        error(1, "cooperative 1 0;^xlasses 1;");
        error(1, BASE + "^red;");
        error(1, BASE + "^loads 0 1 90;");
        error(1, BASE + "^loa 0 1 90;");
        error(1, BASE + "^lot;");
        error(1, BASE + "^restore 0;");
    }

    private static void failureChangesNothing() {
        Check.part("a failed load");
        WineCooperative x = Check.loaded(BASE + "load 0 9 90;bottle 0 3;");
        x.printTanks();
        String before = Fingerprint.of(x);
        Check.same("load", Check.load(x, BASE + "load 1 50 90;bottle 1 51;"), WineCooperative.PARSE_ERROR);
        Check.same("state after it", Fingerprint.of(x), before);
        Check.same("changes after it", x.undo(), 0);
        Check.same("error after undo", x.errorCode(), 6);
        Check.argument("truncate(1), as the buffer is empty", () -> x.truncate(1));
        Check.same("load of nothing", x.load(), WineCooperative.PARSE_ERROR);
        Check.same("its code", x.errorCode(), 1);
        Check.same("its offset", x.errorOffset(), 0);
    }

    private static void carriedOutInOrder() {
        Check.part("order of statements");
        WineCooperative x = Check.loaded(BASE + "price red 0 3;load 0 10 90;pay ann;price red 0 7;load 0 10 90;"
                + "bottle 0 15;sell 0 5 4;pay ann;");
        Check.same("valueOf(0)", x.valueOf(0), 30);
        Check.same("valueOf(1)", x.valueOf(1), 70);
        Check.same("cash()", x.cash(), 100 - 30 + 20 - 70);
        Check.same("cashDifference()", x.cashDifference(), 0);
        Check.same("bottleDifference()", x.bottleDifference(), 0);
        Check.same("unsold(0)", x.unsold(0), 10);
        Check.same("content(0)", x.content(0), 5);
    }
}
