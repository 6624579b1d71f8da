/** Promises 27 and 28: save, restore. */
public final class SlotsTest {
    public static void main(String[] args) {
        AccessSpread x = Checks.loaded("Rpsb/0t11r22w0");
        for (int slot : new int[] {-1, 2, Integer.MIN_VALUE, Integer.MAX_VALUE}) {
            Checks.dueThrow("save(" + slot + ")", Checks.INDEX, () -> x.save(slot));
            Checks.dueThrow("restore(" + slot + ")", Checks.INDEX, () -> x.restore(slot));
        }
        Checks.dueThrow("restore(0) of nothing", Checks.STATE, () -> x.restore(0));
        Checks.due("save(0)", x.save(0), 3);
        Checks.dueThrow("restore(1) of nothing", Checks.STATE, () -> x.restore(1));
        x.removeThing(2);
        x.wake(1, true);
        Checks.due("save(1)", x.save(1), 1);
        Checks.due("save() is no action", x.undo(), 1);
        Checks.due("restore(0)", x.restore(0), 3);
        Checks.dueSeen("restore(0)", x, "11 -10 10 0-4 00 80- ");
        Checks.dueThrow("undo() after restore(0)", Checks.STATE, x::undo);
        x.set(0, 3, 1, true);
        Checks.due("the slot keeps it: restore(0)", x.restore(0), 3);
        Checks.dueSeen("restore(0) again", x, "11 -10 10 0-4 00 80- ");
        Checks.due("restore(1)", x.restore(1), 1);
        Checks.dueSeen("restore(1)", x, "11 -1 11 0- ");
        x.addThing(true);
        Checks.due("save(0) over another", x.save(0), 1);
        x.removeThing(0);
        Checks.dueThrow("restore(2) forgets nothing", Checks.INDEX, () -> x.restore(2));
        Checks.due("undo() brings not the slots back", x.undo(), 1);
        Checks.due("undo() again", x.undo(), 0);
        Checks.due("restore(0) then", x.restore(0), 1);
        Checks.dueSeen("restore(0) then", x, "11 -10 11 0-0 11 00- ");
        Checks.write(x, "Rb");
        x.load();
        Checks.dueThrow("restore(0) after load()", Checks.STATE, () -> x.restore(0));
        Checks.dueThrow("restore(1) after load()", Checks.STATE, () -> x.restore(1));
        Checks.due("save(1) after load()", x.save(1), 0);
        Checks.due("restore(1) after it", x.restore(1), 0);
        Checks.end();
    }
}
