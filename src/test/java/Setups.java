/** Checks of setup texts: the loads of a good one, the code and the offset of a wrong one. */
final class Setups {
    static final String HEAD = "cooperative 10 100;classes 90 75 60;";
    static final String BASE = HEAD + "variety red;variety rose;grower ann;grower bert;"
            + "plot ann red 9;plot bert rose 9;tank 100;tank 200;";

    private Setups() {
    }

    /** The error is due at the mark ^ of the text, which is taken out. */
    static void error(int code, String marked) {
        int offset = marked.indexOf('^');
        String text = marked.substring(0, offset) + marked.substring(offset + 1);
        WineCooperative x = new WineCooperative();
        Check.same("load of " + marked, Check.load(x, text), WineCooperative.PARSE_ERROR);
        Check.same("errorCode of " + marked, x.errorCode(), code);
        Check.same("errorOffset of " + marked, x.errorOffset(), offset);
    }

    static void good(int loads, String text) {
        WineCooperative x = new WineCooperative();
        Check.same("load of " + text, Check.load(x, text), loads);
        Check.same("errorCode of " + text, x.errorCode(), 0);
        Check.same("errorOffset of " + text, x.errorOffset(), -1);
    }
}
