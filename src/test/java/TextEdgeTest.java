/** The sentences under "Text" and of the promises 1 to 5 that name a boundary. */
public final class TextEdgeTest {
    private static final int NONE = AccessSpread.NONE;

    public static void main(String[] args) {
        newObject();
        appendCodes();
        appendLengths();
        appendFull();
        clearText();
        errorPosition();
        letterR();
        things();
        slash();
        rightsAreThree();
        noRightTwice();
        mostRights();
        noBlanks();
        leftToRight();
        endsTooSoon();
        loadReplaces();
        loadForgets();
        loadKeeps();
        loadOfNoState();
        Checks.end();
    }

    private static AccessSpread with(String text) {
        AccessSpread x = new AccessSpread();
        Checks.write(x, text);
        return x;
    }

    private static void error(String text, int want) {
        Checks.due("errorPosition of " + text, with(text).errorPosition(), want);
    }

    /** Puts each of the 256 characters behind the beginning of a state; those that are not allowed have the error position. */
    private static void allowed(String start, String signs, boolean isStateThen) {
        for (int c = 0; c <= 255; c++) {
            int then = isStateThen ? NONE : start.length() + 1;
            int want = signs.indexOf(c) >= 0 ? then : start.length();
            Checks.due("errorPosition of " + start + " and " + c, with(start + (char) c).errorPosition(), want);
        }
    }

    private static void newObject() {
        Checks.sentence("Creates a state without things.");
        AccessSpread x = new AccessSpread();
        Checks.due("things", x.about(0), 0);
        Checks.dueThrow("thing(0, 0)", Checks.INDEX, () -> x.thing(0, 0));
        Checks.dueThrow("undo()", Checks.STATE, x::undo);
        Checks.dueThrow("restore(0)", Checks.STATE, () -> x.restore(0));
        Checks.dueThrow("restore(1)", Checks.STATE, () -> x.restore(1));
        Checks.due("text", x.clearText(), 0);
        Checks.due("the first thing", x.addThing(true), 0);
    }

    private static void appendCodes() {
        Checks.sentence("character code, 0 to 255");
        AccessSpread x = new AccessSpread();
        Checks.due("append(0)", x.append(0), 1);
        Checks.due("append(255)", x.append(255), 2);
        for (int c : new int[] {-1, 256, 'R' + 256, 'R' + 65536, Integer.MIN_VALUE, Integer.MAX_VALUE}) {
            Checks.dueThrow("append(" + c + ")", Checks.ARGUMENT, () -> x.append(c));
        }
        Checks.due("length", x.clearText(), 2);
    }

    private static void appendLengths() {
        Checks.sentence("The object has a text buffer of at most 110 characters.");
        AccessSpread x = new AccessSpread();
        for (int length = 1; length <= 110; length++) {
            Checks.due("append", x.append('p'), length);
        }
    }

    private static void appendFull() {
        Checks.sentence("Throws IllegalStateException if the text already has 110 characters");
        AccessSpread x = new AccessSpread();
        for (int i = 1; i <= 109; i++) {
            x.append('p');
        }
        Checks.due("the 110th", x.append('p'), 110);
        Checks.dueThrow("the 111th", Checks.STATE, () -> x.append('p'));
        Checks.dueThrow("the 111th once more", Checks.STATE, () -> x.append('p'));
        Checks.due("length", x.clearText(), 110);
        Checks.due("after clearText", x.append('p'), 1);
    }

    private static void clearText() {
        Checks.sentence("Returns the previous length of the text.");
        AccessSpread x = new AccessSpread();
        Checks.due("of a new object", x.clearText(), 0);
        x.append('R');
        Checks.due("of one character", x.clearText(), 1);
        Checks.due("of none", x.clearText(), 0);
        Checks.due("errorPosition of none", x.errorPosition(), 0);
        Checks.write(x, "R" + "p".repeat(109));
        Checks.due("of 110", x.clearText(), 110);
        x.append('R');
        Checks.due("errorPosition of what was appended then", x.errorPosition(), NONE);
    }

    private static void errorPosition() {
        Checks.sentence("Returns the error position of the text; NONE if it is a state.");
        AccessSpread x = Checks.loaded("Rpb/0t1");
        x.addThing(true);
        Checks.due("of a state", x.errorPosition(), NONE);
        Checks.due("of a state once more", x.errorPosition(), NONE);
        x.append('?');
        Checks.due("of none", x.errorPosition(), 7);
        Checks.due("the text stays", x.clearText(), 8);
        Checks.due("of no text", x.errorPosition(), 0);
        Checks.dueSeen("errorPosition", x, "11 -10 00 0-0 11 00- ");
        error("R" + "p".repeat(109), 8);
    }

    private static void letterR() {
        Checks.sentence("A state is the letter R");
        allowed("", "R", true);
        error("pR", 0);
        error("RR", 1);
    }

    private static void things() {
        Checks.sentence("up to 7 letters for things (p: an awake person; s: one who is asleep; b: a box)");
        allowed("R", "psb", true);
        allowed("Rp", "psb", true);
        allowed("Rpsbpsbp", "/", false);
        error("R", NONE);
        error("Rpsbpsb", NONE);
        error("Rpsbpsbb", NONE);
        error("Rpsbpsbpp", 8);
        Checks.dueSeen("Rpsb", Checks.loaded("Rpsb"), "11 -00 10 0-0 00 00- ");
        Checks.due("7 things", Checks.loaded("Rssssssb").about(0), 7);
    }


    private static void slash() {
        Checks.sentence("and then, if there are rights, a / (behind at least two things)");
        allowed("Rbb/0t1", "01", false);
        error("R/", 1);
        error("Rp/", 2);
        error("Rp/0t0", 2);
        error("Rbb", NONE);
        error("Rbb/", 4);
        error("Rbb//", 4);
        error("Rbb/0t1", NONE);
        error("Rbb/0t1/", 7);
        error("Rbb/0t1/1t0", 7);
        for (int c = 0; c <= 255; c++) {
            boolean isThing = "psb".indexOf(c) >= 0;
            int want = isThing ? NONE : c == '/' ? 4 : 3;
            Checks.due("errorPosition of Rbb and " + c, with("Rbb" + (char) c).errorPosition(), want);
        }
    }

    private static void rightsAreThree() {
        Checks.sentence("for each right three characters: the digit of the thing that has it, a letter t, g, r or w (take, "
            + "give, read, write), and the digit of another thing");
        allowed("Rbb/", "01", false);
        allowed("Rbbbbbbb/", "0123456", false);
        allowed("Rbb/0", "tgrw", false);
        allowed("Rbb/0t", "1", true);
        allowed("Rbb/1w", "0", true);
        allowed("Rbbbbbbb/3g", "012456", true);
        allowed("Rbbbbbbb/6r", "012345", true);
        allowed("Rbbb/0t10", "tgrw", false);
        allowed("Rbbb/0t11r", "02", true);
        AccessSpread x = Checks.loaded("Rbb/0t11g00r11w0");
        Checks.due("take and read", x.rights(0, 1, false), 1 | 4);
        Checks.due("give and write", x.rights(1, 0, false), 2 | 8);
    }

    private static void noRightTwice() {
        Checks.sentence("(the third character of a right that was told is such a one)");
        error("Rbb/0t10t1", 9);
        error("Rbb/0t11t00t1", 12);
        error("Rbbb/0t10t20t3", 13);
        error("Rbbb/0t10t20t2", 13);
        error("Rbb/0t10g1", NONE);
        error("Rbb/0t11t0", NONE);
        allowed("Rbbb/0t10t", "2", true);
        allowed("Rbb/0t10t", "", false);
        error("Rbb/0t10g10r10w11t01g01r01w0", NONE);
        error("Rbb/0t10g10r10w11t01g01r01w01w0", 30);
    }

    private static void mostRights() {
        Checks.sentence("no right twice, at most 30.");
        String thirty = "Rbbbb" + Checks.THIRTY_RIGHTS;
        error(thirty, NONE);
        allowed(thirty, "", false);
        error(thirty + "3t0", thirty.length());
        error(thirty.substring(0, thirty.length() - 3) + "3t0", NONE);
        String longest = "Rbbbbbbb" + Checks.THIRTY_RIGHTS;
        error(longest, NONE);
        error(longest + "6t06g06r06w", longest.length());
        Checks.due("the longest state", Checks.loaded(longest).about(3), 30);
    }

    private static void noBlanks() {
        Checks.sentence("There are no blanks.");
        String text = "Rbb/0t11t0";
        for (int at = 0; at <= text.length(); at++) {
            error(text.substring(0, at) + " " + text.substring(at), at);
        }
    }

    private static void leftToRight() {
        Checks.sentence("The text is read from left to right.");
        error("xpp/9x9", 0);
        error("Rpx/9x9", 2);
        error("Rpp/9x9", 4);
        error("Rpp/0x9", 5);
        error("Rpp/0t9", 6);
        error("Rpp/0t1px", 7);
    }

    private static void endsTooSoon() {
        Checks.sentence("if the text ends too soon, it is the length of the text.");
        int[] want = {0, NONE, NONE, NONE, NONE, 5, 6, 7, NONE, 9, 10, NONE};
        String text = "Rpps/0t11w0";
        for (int length = 0; length <= text.length(); length++) {
            error(text.substring(0, length), want[length]);
        }
        AccessSpread shorter = with(text);
        Checks.write(shorter, text.substring(0, 6));
        Checks.due("behind a longer text", shorter.errorPosition(), 6);
        String thirty = "Rbbbbbbb" + Checks.THIRTY_RIGHTS;
        error(thirty.substring(0, thirty.length() - 1), thirty.length() - 1);
    }

    private static void loadReplaces() {
        Checks.sentence("Replaces everything by the state of the text.");
        AccessSpread x = Checks.loaded("Rppppppp/0t66t05w43r2");
        Checks.write(x, "Rsbp/2w1");
        Checks.due("load", x.load(), 3);
        Checks.dueSeen("load of fewer things", x, "10 -00 00 0-0 11 08- ");
        Checks.write(x, "Rpppp");
        Checks.due("load of more things", x.load(), 4);
        Checks.dueSeen("load of more things", x, "11 -000 11 0-00 11 00-0 11 000- ");
        Checks.write(x, "R");
        Checks.due("load of no things", x.load(), 0);
        Checks.due("things", x.about(0), 0);
        Checks.due("persons", x.about(1), 0);
        Checks.due("rights", x.about(3), 0);
        Checks.due("a thing then", x.addThing(false), 0);
        Checks.dueSeen("a box then", x, "00 - ");
    }

    private static void loadForgets() {
        Checks.sentence("Forgets all remembered states and empties both save slots.");
        AccessSpread x = Checks.loaded("Rpb");
        for (int i = 0; i < 14; i++) {
            x.wake(0, false);
        }
        x.save(0);
        x.save(1);
        x.load();
        Checks.dueThrow("undo()", Checks.STATE, x::undo);
        Checks.dueThrow("restore(0)", Checks.STATE, () -> x.restore(0));
        Checks.dueThrow("restore(1)", Checks.STATE, () -> x.restore(1));
        x.wake(0, false);
        Checks.due("one action then", x.undo(), 0);
    }

    private static void loadKeeps() {
        Checks.sentence("Keeps the text.");
        AccessSpread x = Checks.loaded("Rpb/0t1");
        x.removeThing(0);
        Checks.due("load once more", x.load(), 2);
        Checks.due("append then", x.append('1'), 8);
        Checks.due("clearText then", x.clearText(), 8);
        Checks.due("the state stays without the text", x.about(0), 2);
    }

    private static void loadOfNoState() {
        Checks.sentence("Throws IllegalStateException if the text is not a state");
        for (String text : new String[] {"", "p", "Rpp/", "Rpp/0", "Rpp/0t", "Rpp/0t0", "Rpp/0t10t1", "Rpppppppp"}) {
            AccessSpread x = Checks.loaded("Rpb/0t1");
            x.save(0);
            x.wake(0, true);
            Checks.write(x, text);
            Checks.dueThrow("load of " + text, Checks.STATE, x::load);
            Checks.dueSeen("load of " + text, x, "11 -1 00 0- ");
            Checks.due("undo()", x.undo(), 0);
            Checks.due("restore(0)", x.restore(0), 1);
            Checks.due("the text", x.clearText(), text.length());
        }
    }
}
