/** The sentences under "Exceptions", for every call that they are about. */
public final class ThrowEdgeTest {
    private static final int[] FAR = {-1, -9, 7, 8, 31, 32, 33, 64, 256, Integer.MIN_VALUE, Integer.MAX_VALUE};
    private static final int[] NO_KINDS = {-1, 4, -9, 5, 28, 32, Integer.MIN_VALUE, Integer.MAX_VALUE};
    private static final int MOST_PAIR_CALLS = 8;
    private static final int MOST_STEP_CALLS = 4;

    public static void main(String[] args) {
        noSuchThing();
        noSuchSlot();
        outOfRange();
        kindsOutOfRange();
        haveToBeDifferent();
        namedFirst();
        namedFirstOfSteps();
        changesNothing();
        changesNothingWithoutText();
        Checks.end();
    }

    /** Every call of a right k of x over y. */
    private static Checks.Call pairCall(AccessSpread a, int which, int x, int k, int y) {
        switch (which) {
            case 0:
                return () -> a.round(x, k, y);
            case 1:
                return () -> a.way(x, k, y);
            case 2:
                return () -> a.proof(x, k, y);
            case 3:
                return () -> a.set(x, k, y, true);
            case 4:
                return () -> a.set(x, k, y, false);
            case 5:
                return () -> a.needed(x, k, y);
            case 6:
                return () -> a.cut(x, k, y);
            default:
                return () -> a.cutAt(x, k, y, 1);
        }
    }

    private static Checks.Call stepCall(AccessSpread a, int which, int p, int y, int k, int z) {
        switch (which) {
            case 0:
                return () -> a.take(p, y, k, z);
            case 1:
                return () -> a.give(p, y, k, z);
            case 2:
                return () -> a.whyNot(false, p, y, k, z);
            default:
                return () -> a.whyNot(true, p, y, k, z);
        }
    }

    private static void pairs(AccessSpread a, int want, int x, int k, int y) {
        for (int which = 0; which < MOST_PAIR_CALLS; which++) {
            Checks.dueThrow("pair call " + which + " of " + x + ", " + k + ", " + y, want, pairCall(a, which, x, k, y));
        }
    }

    private static void steps(AccessSpread a, int want, int p, int y, int k, int z) {
        for (int which = 0; which < MOST_STEP_CALLS; which++) {
            String of = p + ", " + y + ", " + k + ", " + z;
            Checks.dueThrow("step call " + which + " of " + of, want, stepCall(a, which, p, y, k, z));
        }
    }

    private static void noSuchThing() {
        Checks.sentence("IndexOutOfBoundsException means that a thing does not exist");
        for (int n = 0; n <= 7; n++) {
            String text = "R" + "psbpsbp".substring(0, n);
            for (int far : FAR) {
                noSuchThing(Checks.loaded(text), far);
            }
            noSuchThing(Checks.loaded(text), n);
        }
    }

    private static void noSuchThing(AccessSpread x, int far) {
        Checks.dueThrow("thing " + far, Checks.INDEX, () -> x.thing(far, 0));
        Checks.dueThrow("removeThing " + far, Checks.INDEX, () -> x.removeThing(far));
        Checks.dueThrow("wake " + far, Checks.INDEX, () -> x.wake(far, true));
        Checks.dueThrow("wake to sleep " + far, Checks.INDEX, () -> x.wake(far, false));
        for (boolean end : new boolean[] {false, true}) {
            Checks.dueThrow("rights x " + far, Checks.INDEX, () -> x.rights(far, 0, end));
            Checks.dueThrow("rights y " + far, Checks.INDEX, () -> x.rights(0, far, end));
        }
        pairs(x, Checks.INDEX, far, 0, 0);
        pairs(x, Checks.INDEX, 0, 0, far);
        steps(x, Checks.INDEX, far, 1, 0, 0);
        steps(x, Checks.INDEX, 0, far, 0, 1);
        steps(x, Checks.INDEX, 0, 1, 0, far);
    }

    private static void noSuchSlot() {
        Checks.sentence("or that a save slot is not 0 or 1.");
        AccessSpread x = Checks.loaded("Rpp");
        Checks.due("slot 0", x.save(0), 0);
        Checks.due("slot 1", x.save(1), 0);
        for (int slot : new int[] {-1, 2, 3, -9, Integer.MIN_VALUE, Integer.MAX_VALUE}) {
            Checks.dueThrow("save " + slot, Checks.INDEX, () -> x.save(slot));
            Checks.dueThrow("restore " + slot, Checks.INDEX, () -> x.restore(slot));
        }
    }

    private static void outOfRange() {
        Checks.sentence("IllegalArgumentException means that another argument is out of its range");
        AccessSpread x = Checks.loaded("Rpppb/0t11r2");
        for (int far : new int[] {-1, -9, Integer.MIN_VALUE, Integer.MAX_VALUE}) {
            Checks.dueThrow("append " + far, Checks.ARGUMENT, () -> x.append(far));
            Checks.dueThrow("about " + far, Checks.ARGUMENT, () -> x.about(far));
            Checks.dueThrow("thing " + far, Checks.ARGUMENT, () -> x.thing(0, far));
            Checks.dueThrow("cutAt " + far, Checks.ARGUMENT, () -> x.cutAt(0, 2, 2, far));
            Checks.dueThrow("runScript " + far, Checks.ARGUMENT, () -> x.runScript(far, 0));
            Checks.dueThrow("simulate " + far, Checks.ARGUMENT, () -> x.simulate(0, far));
        }
        Checks.dueThrow("append 256", Checks.ARGUMENT, () -> x.append(256));
        Checks.dueThrow("about 8", Checks.ARGUMENT, () -> x.about(8));
        Checks.dueThrow("thing 7", Checks.ARGUMENT, () -> x.thing(0, 7));
        Checks.dueThrow("cutAt 2", Checks.ARGUMENT, () -> x.cutAt(0, 2, 2, 2));
        Checks.dueThrow("runScript 0", Checks.ARGUMENT, () -> x.runScript(0, 0));
        Checks.dueThrow("runScript 4", Checks.ARGUMENT, () -> x.runScript(4, 0));
        Checks.dueThrow("simulate 0", Checks.ARGUMENT, () -> x.simulate(0, 0));
        Checks.dueThrow("simulate 100", Checks.ARGUMENT, () -> x.simulate(0, 100));
    }

    private static void kindsOutOfRange() {
        Checks.sentence("Throws IllegalArgumentException if x and y are the same, or k is out of range");
        AccessSpread x = Checks.loaded("Rpppb/0t11r2");
        for (int k : NO_KINDS) {
            pairs(x, Checks.ARGUMENT, 0, k, 1);
            pairs(x, Checks.ARGUMENT, 0, k, 0);
            steps(x, Checks.ARGUMENT, 0, 1, k, 2);
            steps(x, Checks.ARGUMENT, 0, 1, k, 1);
        }
        for (int k = 0; k <= 3; k++) {
            pairs(x, 0, 3, k, 1);
        }
    }

    private static void haveToBeDifferent() {
        Checks.sentence("or that things that have to be different are not.");
        AccessSpread x = Checks.loaded("Rppb/0t11r20g10w2");
        for (int i = 0; i < 3; i++) {
            int same = i;
            int other = (i + 1) % 3;
            pairs(x, Checks.ARGUMENT, i, 2, i);
            Checks.dueThrow("rights", Checks.ARGUMENT, () -> x.rights(same, same, false));
            Checks.dueThrow("rights at the end", Checks.ARGUMENT, () -> x.rights(same, same, true));
            steps(x, Checks.ARGUMENT, i, i, 2, other);
            steps(x, Checks.ARGUMENT, i, other, 2, i);
            steps(x, Checks.ARGUMENT, other, i, 2, i);
            steps(x, Checks.ARGUMENT, i, i, 2, i);
        }
    }

    private static void namedFirst() {
        Checks.sentence("If several exceptions apply to a call, the one that its description names first is thrown.");
        AccessSpread x = prepared();
        Checks.dueThrow("append of no character to a full text", Checks.ARGUMENT, () -> x.append(256));
        Checks.dueThrow("append of no character to a full text", Checks.ARGUMENT, () -> x.append(-1));
        Checks.dueThrow("thing", Checks.INDEX, () -> x.thing(7, 7));
        Checks.dueThrow("rights of the same", Checks.INDEX, () -> x.rights(7, 7, false));
        pairs(x, Checks.INDEX, 7, 0, 7);
        pairs(x, Checks.INDEX, -1, 4, 0);
        pairs(x, Checks.INDEX, 0, -1, 7);
        Checks.dueThrow("cutAt", Checks.INDEX, () -> x.cutAt(0, 0, 7, 2));
        Checks.dueThrow("set over itself with 30", Checks.ARGUMENT, () -> x.set(3, 0, 3, true));
        Checks.dueThrow("set of no kind with 30", Checks.ARGUMENT, () -> x.set(3, 4, 0, true));
        Checks.dueThrow("set over no thing with 30", Checks.INDEX, () -> x.set(3, 0, 7, true));
        Checks.dueThrow("restore", Checks.INDEX, () -> x.restore(2));
        Checks.dueThrow("wake", Checks.INDEX, () -> x.wake(7, true));
    }

    private static void namedFirstOfSteps() {
        Checks.sentence("If several exceptions apply to a call, the one that its description names first is thrown.");
        AccessSpread x = prepared();
        steps(x, Checks.INDEX, 7, 7, 4, 7);
        steps(x, Checks.INDEX, 0, 0, 0, 7);
        steps(x, Checks.INDEX, 0, 7, 0, 0);
        steps(x, Checks.INDEX, 7, 0, 0, 0);
        steps(x, Checks.INDEX, 0, 1, -1, 7);
        // the thing 2 is a box, and the thing 6 has no rights
        steps(x, Checks.ARGUMENT, 2, 2, 0, 6);
        steps(x, Checks.ARGUMENT, 2, 6, 4, 0);
        steps(x, Checks.ARGUMENT, 6, 2, 0, 6);
    }

    /** 7 things, 30 rights, four remembered states, one save slot in use, and a full text that is no state. */
    private static AccessSpread prepared() {
        AccessSpread x = Checks.loaded("Rpsbpppb" + Checks.THIRTY_RIGHTS);
        x.save(0);
        x.wake(1, true);
        x.wake(5, false);
        x.set(2, 1, 1, false);
        x.set(0, 0, 5, true);
        Checks.write(x, "Rpp/0t1" + "?".repeat(103));
        return x;
    }

    private static void changesNothing() {
        Checks.sentence("A call that throws an exception changes nothing.");
        for (int which = 0; which < MOST_PAIR_CALLS; which++) {
            for (int[] of : new int[][] {{7, 0, 0}, {0, 0, 7}, {0, 0, 0}, {0, 4, 1}}) {
                AccessSpread x = prepared();
                unchanged(x, "pair call " + which, pairCall(x, which, of[0], of[1], of[2]));
            }
        }
        for (int which = 0; which < MOST_STEP_CALLS; which++) {
            for (int[] of : new int[][] {{7, 0, 0, 1}, {0, 1, 0, 1}, {0, 1, 4, 2}}) {
                AccessSpread x = prepared();
                unchanged(x, "step call " + which, stepCall(x, which, of[0], of[1], of[2], of[3]));
            }
        }
        for (int which = 0; which <= 20; which++) {
            AccessSpread x = prepared();
            unchanged(x, "call " + which, otherCall(x, which));
        }
    }

    private static void unchanged(AccessSpread x, String call, Checks.Call run) {
        Checks.due(call + " throws", Checks.thrownBy(run) > 0, true);
        Checks.dueText(call + " left", Checks.drained(x), Checks.drained(prepared()));
    }

    private static Checks.Call otherCall(AccessSpread x, int which) {
        switch (which) {
            case 0: return () -> x.append('p');
            case 1: return () -> x.append(256);
            case 2: return () -> x.load();
            case 3: return () -> x.about(8);
            case 4: return () -> x.thing(7, 4);
            case 5: return () -> x.thing(0, 7);
            case 6: return () -> x.rights(0, 7, true);
            case 7: return () -> x.rights(0, 0, true);
            case 8: return () -> x.addThing(true);
            case 9: return () -> x.removeThing(7);
            case 10: return () -> x.wake(7, false);
            case 11: return () -> x.wake(2, false);
            case 12: return () -> x.set(3, 3, 2, true);
            case 13: return () -> x.take(3, 0, 2, 1);
            case 14: return () -> x.give(0, 3, 2, 5);
            case 15: return () -> x.cutAt(0, 2, 1, 2);
            case 16: return () -> x.runScript(1, 100000);
            case 17: return () -> x.simulate(1, 100);
            case 18: return () -> x.save(2);
            case 19: return () -> x.restore(2);
            default: return () -> x.restore(1);
        }
    }

    private static void changesNothingWithoutText() {
        Checks.sentence("A call that throws an exception changes nothing.");
        for (boolean isCalled : new boolean[] {false, true}) {
            AccessSpread x = Checks.loaded("Rps/0t1");
            x.save(1);
            if (isCalled) {
                Checks.dueThrow("undo() of none", Checks.STATE, x::undo);
            }
            Checks.dueText("undo() of none left", Checks.drained(x),
                "11 -1 10 0- | text -9| slot none| slot 11 -1 10 0- | load 0 11 -1 10 0- | length 7");
            AccessSpread none = new AccessSpread();
            if (isCalled) {
                Checks.dueThrow("load() of no text", Checks.STATE, none::load);
                Checks.dueThrow("restore(0) of nothing", Checks.STATE, () -> none.restore(0));
            }
            Checks.dueText("a new object", Checks.drained(none), "| text 0| slot none| slot none| load 3 | length 0");
        }
    }
}
