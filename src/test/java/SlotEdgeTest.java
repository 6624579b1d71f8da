/** The sentences of the promises 27 and 28 that name a boundary. */
public final class SlotEdgeTest {
    public static void main(String[] args) {
        saveAnswers();
        savesThePresentState();
        noSuchSlot();
        restoreReplaces();
        restoreForgets();
        slotKeepsIt();
        nothingSaved();
        slotsStay();
        Checks.end();
    }

    private static void saveAnswers() {
        Checks.sentence("Returns the number of rights.");
        AccessSpread x = new AccessSpread();
        Checks.due("save of no things", x.save(0), 0);
        AccessSpread full = Checks.loaded("Rbbbb" + Checks.THIRTY_RIGHTS);
        Checks.due("save of 30 rights", full.save(0), 30);
        full.set(0, 0, 1, false);
        Checks.due("save of 29 rights", full.save(1), 29);
        Checks.due("restore of 30 rights", full.restore(0), 30);
        Checks.due("restore of 29 rights", full.restore(1), 29);
    }

    private static void savesThePresentState() {
        Checks.sentence("Stores the present state in a save slot.");
        AccessSpread x = Checks.loaded("Rpsb/0t11w2");
        x.save(0);
        x.removeThing(0);
        x.save(1);
        x.wake(0, true);
        Checks.due("slot 0", x.restore(0), 2);
        Checks.dueSeen("slot 0", x, "11 -10 10 0-8 00 00- ");
        Checks.due("slot 1", x.restore(1), 1);
        Checks.dueSeen("slot 1", x, "10 -8 00 0- ");
        x.addThing(true);
        x.save(0);
        x.removeThing(2);
        Checks.due("over what was there", x.restore(0), 1);
        Checks.due("over what was there: things", x.about(0), 3);
    }

    private static void noSuchSlot() {
        Checks.sentence("Throws IndexOutOfBoundsException if there is no such save slot");
        AccessSpread x = new AccessSpread();
        for (int slot : new int[] {-1, 2, 3, Integer.MIN_VALUE, Integer.MAX_VALUE}) {
            Checks.dueThrow("save(" + slot + ")", Checks.INDEX, () -> x.save(slot));
            Checks.dueThrow("restore(" + slot + ")", Checks.INDEX, () -> x.restore(slot));
        }
        Checks.dueThrow("slot 0 has nothing still", Checks.STATE, () -> x.restore(0));
        Checks.dueThrow("slot 1 has nothing still", Checks.STATE, () -> x.restore(1));
    }

    private static void restoreReplaces() {
        Checks.sentence("Replaces the state by the one in a save slot");
        AccessSpread x = new AccessSpread();
        x.save(1);
        for (int i = 0; i < 7; i++) {
            x.addThing(i != 3);
        }
        x.set(6, 3, 5, true);
        x.save(0);
        Checks.due("of no things", x.restore(1), 0);
        Checks.due("things", x.about(0), 0);
        Checks.due("persons", x.about(1), 0);
        Checks.due("awake ones", x.about(2), 0);
        Checks.due("of seven things", x.restore(0), 1);
        Checks.due("things", x.about(0), 7);
        Checks.due("persons", x.about(1), 6);
        Checks.due("the right", x.rights(6, 5, false), 8);
        x.restore(1);
        Checks.due("a thing then", x.addThing(false), 0);
        Checks.dueSeen("a thing then", x, "00 - ");
    }

    private static void restoreForgets() {
        Checks.sentence("and forgets all remembered states.");
        AccessSpread x = new AccessSpread();
        x.save(0);
        for (int i = 0; i < 20; i++) {
            x.addThing(true);
            x.removeThing(0);
        }
        x.restore(0);
        Checks.dueThrow("undo()", Checks.STATE, x::undo);
        x.addThing(true);
        Checks.due("undo() of an action then", x.undo(), 0);
        Checks.dueThrow("undo() once more", Checks.STATE, x::undo);
        x.addThing(true);
        Checks.dueThrow("restore(1)", Checks.STATE, () -> x.restore(1));
        Checks.due("undo() after a restore that threw", x.undo(), 0);
    }

    private static void slotKeepsIt() {
        Checks.sentence("The save slot keeps it.");
        AccessSpread x = Checks.loaded("Rpb/0t1");
        x.save(0);
        for (int i = 0; i < 5; i++) {
            Checks.due("restore", x.restore(0), 1);
            Checks.dueSeen("restore", x, "11 -1 00 0- ");
            x.set(1, i % 4, 0, true);
            x.wake(0, false);
            x.removeThing(i % 2);
        }
    }

    private static void nothingSaved() {
        Checks.sentence("Throws IllegalStateException if nothing has been saved in it since the last load");
        AccessSpread x = new AccessSpread();
        Checks.dueThrow("a new object, 0", Checks.STATE, () -> x.restore(0));
        Checks.dueThrow("a new object, 1", Checks.STATE, () -> x.restore(1));
        x.save(1);
        Checks.dueThrow("the other slot", Checks.STATE, () -> x.restore(0));
        Checks.due("without any load", x.restore(1), 0);
        Checks.dueThrow("load() of no state", Checks.STATE, x::load);
        Checks.due("after a load that threw", x.restore(1), 0);
        x.save(0);
        x.append('R');
        x.load();
        Checks.dueThrow("after a load, 0", Checks.STATE, () -> x.restore(0));
        Checks.dueThrow("after a load, 1", Checks.STATE, () -> x.restore(1));
        Checks.due("save after it", x.save(0), 0);
        Checks.due("restore after it", x.restore(0), 0);
        Checks.dueThrow("the other slot after it", Checks.STATE, () -> x.restore(1));
    }

    private static void slotsStay() {
        Checks.sentence("everything but the text and the save slots.");
        AccessSpread x = new AccessSpread();
        x.addThing(true);
        x.save(0);
        x.undo();
        Checks.due("what was saved before an undo", x.restore(0), 0);
        Checks.due("things", x.about(0), 1);
        x.clearText();
        x.append('R');
        Checks.due("restore keeps the text", x.restore(0), 0);
        Checks.due("the text", x.errorPosition(), AccessSpread.NONE);
        Checks.due("its length", x.clearText(), 1);
    }
}
