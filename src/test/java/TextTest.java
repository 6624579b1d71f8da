/** Promises 1 to 5: a new object, append, clearText, errorPosition, load. */
public final class TextTest {
    private static final int NONE = AccessSpread.NONE;
    private static final String THIRTY = "Rbbbb/" + "0t10g10r10w1" + "0t20g20r20w2" + "0t30g30r30w3"
        + "1t01g01r01w0" + "1t21g21r21w2" + "1t31g31r31w3" + "2t02g02r02w0" + "2t12g1";

    public static void main(String[] args) {
        newObject();
        appendAndClear();
        errorPositions();
        endsTooSoon();
        thirtyRights();
        load();
        Checks.end();
    }

    private static void newObject() {
        AccessSpread x = new AccessSpread();
        for (int what = 0; what <= 7; what++) {
            Checks.due("new: about(" + what + ")", x.about(what), 0);
        }
        Checks.due("new: clearText()", x.clearText(), 0);
        Checks.due("new: errorPosition()", x.errorPosition(), 0);
        Checks.due("new: sleeper()", x.sleeper(), NONE);
        Checks.due("new: danger()", x.danger(), NONE);
        Checks.due("new: simulate", x.simulate(1, 99), 0);
        Checks.dueThrow("new: load()", Checks.STATE, x::load);
        Checks.dueThrow("new: undo()", Checks.STATE, x::undo);
        Checks.dueThrow("new: restore(0)", Checks.STATE, () -> x.restore(0));
        Checks.dueThrow("new: restore(1)", Checks.STATE, () -> x.restore(1));
        Checks.dueThrow("new: thing(0, 0)", Checks.INDEX, () -> x.thing(0, 0));
    }

    private static void appendAndClear() {
        AccessSpread x = new AccessSpread();
        Checks.due("append(0)", x.append(0), 1);
        Checks.due("append(255)", x.append(255), 2);
        Checks.dueThrow("append(-1)", Checks.ARGUMENT, () -> x.append(-1));
        Checks.dueThrow("append(256)", Checks.ARGUMENT, () -> x.append(256));
        Checks.dueThrow("append(MIN)", Checks.ARGUMENT, () -> x.append(Integer.MIN_VALUE));
        Checks.due("clearText()", x.clearText(), 2);
        Checks.due("clearText() again", x.clearText(), 0);
        for (int i = 1; i <= 110; i++) {
            Checks.due("append number " + i, x.append('R'), i);
        }
        Checks.dueThrow("append 111", Checks.STATE, () -> x.append('R'));
        Checks.dueThrow("append 111 of no character", Checks.ARGUMENT, () -> x.append(256));
        Checks.due("clearText() of the full text", x.clearText(), 110);
        Checks.due("append after it", x.append('R'), 1);
        Checks.due("errorPosition() after it", x.errorPosition(), NONE);
    }

    private static void errorAt(String text, int want) {
        AccessSpread x = new AccessSpread();
        Checks.write(x, text);
        Checks.due("errorPosition of " + text, x.errorPosition(), want);
        Checks.due("clearText of " + text, x.clearText(), text.length());
    }

    private static void errorPositions() {
        errorAt("", 0);
        errorAt("r", 0);
        errorAt("p", 0);
        errorAt("R", NONE);
        errorAt("R ", 1);
        errorAt("R0", 1);
        errorAt("RR", 1);
        errorAt("RP", 1);
        errorAt("R/", 1);
        errorAt("Rp/", 2);
        errorAt("Rpsb", NONE);
        errorAt("Rpsbpsbp", NONE);
        errorAt("Rpsbpsbpp", 8);
        errorAt("Rpsbpsbp/6w0", NONE);
        errorAt("Rpsbpsbp/7w0", 9);
        errorAt("Rpp/", 4);
        errorAt("Rpp/2", 4);
        errorAt("Rpp//", 4);
        errorAt("Rpp/0", 5);
        errorAt("Rpp/0x", 5);
        errorAt("Rpp/0T", 5);
        errorAt("Rpp/01", 5);
        errorAt("Rpp/0t", 6);
        errorAt("Rpp/0t0", 6);
        errorAt("Rpp/0t2", 6);
        errorAt("Rpp/0t" + (char) 255, 6);
        errorAt("Rpp/0t1", NONE);
        errorAt("Rpp/0t11", 8);
        errorAt("Rpp/0t11t", 9);
        errorAt("Rpp/0t11t0", NONE);
        errorAt("Rpp/0t1 1t0", 7);
        errorAt("Rpp/0t11t00t1", 12);
        errorAt("Rpp/0t1/", 7);
        errorAt("Rpp/0t1p", 7);
        errorAt("Rpp/0t10g10r10w11t01g01r01w0", NONE);
        errorAt("Rpp/0t10g10r10w11t01g01r01w00t1", 30);
    }

    /** What stood in the buffer before is no part of the text. */
    private static void endsTooSoon() {
        AccessSpread x = new AccessSpread();
        String whole = "Rpps/0t11w0";
        int[] want = {0, NONE, NONE, NONE, NONE, 5, 6, 7, NONE, 9, 10, NONE};
        for (int length = 0; length <= whole.length(); length++) {
            Checks.write(x, whole);
            Checks.write(x, whole.substring(0, length));
            Checks.due("errorPosition of " + whole.substring(0, length), x.errorPosition(), want[length]);
        }
    }

    private static void thirtyRights() {
        errorAt(THIRTY, NONE);
        errorAt(THIRTY + "3", THIRTY.length());
        errorAt(THIRTY + "3t0", THIRTY.length());
        errorAt(THIRTY.substring(0, THIRTY.length() - 3) + "3t0", NONE);
        Checks.due("rights of 30 told ones", Checks.loaded(THIRTY).about(3), 30);
    }

    private static void load() {
        AccessSpread x = Checks.loaded("Rpsb/0t12w1");
        Checks.due("load: things", x.about(0), 3);
        Checks.dueSeen("load", x, "11 -10 10 0-0 00 08- ");
        Checks.due("the text stays", x.load(), 3);
        Checks.due("the text stays, and is one", x.errorPosition(), NONE);
        x.addThing(true);
        x.save(0);
        x.save(1);
        Checks.due("append behind a loaded text", x.append('x'), 12);
        Checks.dueThrow("load() of no state", Checks.STATE, x::load);
        Checks.due("things then", x.about(0), 4);
        Checks.due("undo() after load() that throws", x.undo(), 0);
        x.addThing(true);
        Checks.due("restore(0) after load() that throws", x.restore(0), 2);
        x.addThing(true);
        Checks.write(x, "R");
        Checks.due("load() of no things", x.load(), 0);
        Checks.due("load() of no things: rights", x.about(3), 0);
        Checks.dueThrow("undo() after load()", Checks.STATE, x::undo);
        Checks.dueThrow("restore(0) after load()", Checks.STATE, () -> x.restore(0));
        Checks.dueThrow("restore(1) after load()", Checks.STATE, () -> x.restore(1));
        Checks.write(x, "Rppp/0t1");
        Checks.due("load() of fewer rights", x.load(), 3);
        Checks.dueSeen("load() again", x, "11 -10 11 0-0 11 00- ");
    }
}
