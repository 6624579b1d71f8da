/** The sentences under "Actions and undo" and of the promises 12 to 18 that name a boundary. */
public final class ActionEdgeTest {
    private static final int NONE = AccessSpread.NONE;

    public static void main(String[] args) {
        actionsThatChangeNothing();
        undoIsNoAction();
        remembersBefore();
        mostRemembered();
        oldestForgotten();
        loadAndRestore();
        whatIsNoState();
        addThing();
        addThingFull();
        removeThing();
        removeThingNumbers();
        removeThingCounts();
        wake();
        wakeBox();
        set();
        setFull();
        takeAnswers();
        takeFull();
        giveAnswers();
        giveFull();
        undo();
        Checks.end();
    }

    /** Tells that so many states are remembered, and uses them up. */
    private static void dueRemembered(String call, AccessSpread x, int want) {
        for (int left = want - 1; left >= 0; left--) {
            Checks.due(call + ": undo()", x.undo(), left);
        }
        Checks.dueThrow(call + ": undo() of none", Checks.STATE, x::undo);
    }

    private static void actionsThatChangeNothing() {
        Checks.sentence("Each call of one of them that does not throw an exception is an action, also if nothing becomes "
            + "different (undo is none).");
        AccessSpread x = Checks.loaded("Rpsbb/0t20g22r30r3");
        x.set(0, 0, 2, true);
        dueRemembered("set of a right that is there", x, 1);
        x.set(1, 0, 2, false);
        dueRemembered("set of none that is not there", x, 1);
        x.wake(0, true);
        dueRemembered("wake of one who is awake", x, 1);
        x.wake(1, false);
        dueRemembered("wake of one who is asleep", x, 1);
        x.take(0, 2, 2, 3);
        dueRemembered("take of a right that is there", x, 1);
        x.give(0, 2, 2, 3);
        dueRemembered("give of a right that is there", x, 1);
        x.addThing(true);
        dueRemembered("addThing", x, 1);
        x.removeThing(1);
        dueRemembered("removeThing", x, 1);
        Checks.dueSeen("all taken back", x, "11 -034 10 0-00 00 00-4 00 000- ");
    }

    private static void undoIsNoAction() {
        Checks.sentence("(undo is none)");
        AccessSpread x = new AccessSpread();
        x.addThing(true);
        x.addThing(true);
        x.undo();
        dueRemembered("two actions and an undo", x, 1);
        Checks.due("things", x.about(0), 0);
    }

    private static void remembersBefore() {
        Checks.sentence("Before each action, the state is remembered.");
        AccessSpread x = Checks.loaded("Rpsbb/0t20g12r30w3");
        String[] seen = new String[7];
        for (int i = 0; i < 7; i++) {
            seen[i] = Checks.seen(x);
            act(x, i);
        }
        for (int i = 6; i >= 0; i--) {
            x.undo();
            Checks.dueSeen("undo() of the action " + i, x, seen[i]);
        }
    }

    private static void act(AccessSpread x, int which) {
        switch (which) {
            case 0 -> x.take(0, 2, 2, 3);
            case 1 -> x.give(0, 1, 3, 3);
            case 2 -> x.wake(1, true);
            case 3 -> x.set(0, 0, 2, false);
            case 4 -> x.set(1, 3, 0, true);
            case 5 -> x.addThing(true);
            default -> x.removeThing(0);
        }
    }

    private static AccessSpread afterActions(int actions) {
        AccessSpread x = Checks.loaded("Rbbbbbbb");
        for (int i = 0; i < actions; i++) {
            x.set(0, i % 4, 1 + i / 4 % 6, i < 24);
        }
        return x;
    }

    private static void mostRemembered() {
        Checks.sentence("At most 14 states are remembered");
        for (int actions : new int[] {0, 1, 13, 14, 15, 16, 28, 29, 100}) {
            dueRemembered(actions + " actions", afterActions(actions), Math.min(actions, 14));
        }
        AccessSpread again = afterActions(20);
        for (int i = 0; i < 5; i++) {
            again.undo();
        }
        for (int i = 0; i < 7; i++) {
            again.set(6, i % 4, i / 4, true);
        }
        dueRemembered("20 actions, 5 taken back, and 7 more", again, 14);
        Checks.dueSeen("the oldest one then", again, Checks.seen(afterActions(8)));
    }

    private static void oldestForgotten() {
        Checks.sentence("when one more is remembered, the oldest one is forgotten.");
        for (int actions = 14; actions <= 20; actions++) {
            AccessSpread x = afterActions(actions);
            for (int i = 1; i <= 14; i++) {
                x.undo();
                Checks.dueSeen(actions + " actions, " + i + " taken back", x, Checks.seen(afterActions(actions - i)));
            }
        }
    }

    private static void loadAndRestore() {
        Checks.sentence("load and restore are not actions.");
        AccessSpread x = Checks.loaded("Rpb");
        dueRemembered("load", x, 0);
        x.load();
        dueRemembered("load of the same", x, 0);
        x.save(0);
        dueRemembered("save", x, 0);
        x.restore(0);
        dueRemembered("restore", x, 0);
    }

    private static void whatIsNoState() {
        Checks.sentence("the state, which consists of everything but the text and the save slots.");
        AccessSpread x = Checks.loaded("Rpb/0t1");
        x.save(0);
        x.removeThing(1);
        x.save(0);
        x.save(1);
        x.append('1');
        Checks.due("undo()", x.undo(), 0);
        Checks.due("the text stays", x.errorPosition(), 8);
        Checks.due("slot 1 stays", x.restore(1), 0);
        Checks.due("things in slot 1", x.about(0), 1);
        Checks.due("slot 0 stays", x.restore(0), 0);
        Checks.due("things in slot 0", x.about(0), 1);
    }

    private static void addThing() {
        Checks.sentence("Adds a thing without rights.");
        AccessSpread x = Checks.loaded("Rppp/2t02g10w21r2");
        x.removeThing(2);
        Checks.due("its number", x.addThing(true), 2);
        Checks.dueSeen("an awake person", x, "11 -00 11 0-0 11 00- ");
        AccessSpread box = Checks.loaded("Rppp/2t02g10w21r2");
        box.removeThing(2);
        Checks.due("its number", box.addThing(false), 2);
        Checks.dueSeen("a box", box, "11 -00 11 0-0 00 00- ");
        AccessSpread all = Checks.loaded("Rsssssss/6t06g10w61r65w6");
        all.removeThing(6);
        all.addThing(false);
        Checks.due("the 7th: rights", all.about(3), 0);
        Checks.due("the 7th: persons", all.about(1), 6);
        Checks.due("the 7th: awake ones", all.about(2), 0);
        all.removeThing(0);
        all.addThing(true);
        Checks.due("the new 7th is awake", all.thing(6, 1), 1);
        Checks.due("the box is the 6th now", all.thing(5, 0), 0);
    }

    private static void addThingFull() {
        Checks.sentence("Throws IllegalStateException if there are 7 things");
        AccessSpread x = Checks.loaded("Rbbbbbb");
        Checks.due("the 7th", x.addThing(false), 6);
        Checks.dueThrow("an 8th box", Checks.STATE, () -> x.addThing(false));
        Checks.dueThrow("an 8th person", Checks.STATE, () -> x.addThing(true));
        x.removeThing(3);
        Checks.due("after one has gone", x.addThing(true), 6);
        Checks.dueThrow("an 8th again", Checks.STATE, () -> x.addThing(true));
    }

    /** Seven things, each with a right over the next one and over the one before; any of them goes. */
    private static void removeThing() {
        Checks.sentence("Removes a thing with all its rights and all rights over it; those behind it get numbers that are "
            + "smaller by 1.");
        for (int gone = 0; gone < 7; gone++) {
            AccessSpread x = Checks.loaded("Rpsbpsbp/0t11g22r33w44t55g66r06t55w44r33g22t11w00g6");
            AccessSpread old = Checks.loaded("Rpsbpsbp/0t11g22r33w44t55g66r06t55w44r33g22t11w00g6");
            Checks.due("removeThing(" + gone + ")", x.removeThing(gone), 4);
            Checks.due("things then", x.about(0), 6);
            Checks.due("rights then", x.about(3), 10);
            for (int i = 0; i < 6; i++) {
                int was = i < gone ? i : i + 1;
                Checks.due("a person " + i + " without " + gone, x.thing(i, 0), old.thing(was, 0));
                Checks.due("awake " + i + " without " + gone, x.thing(i, 1), old.thing(was, 1));
                for (int j = 0; j < 6; j++) {
                    if (i != j) {
                        int other = j < gone ? j : j + 1;
                        Checks.due("rights " + i + " " + j + " without " + gone, x.rights(i, j, false),
                            old.rights(was, other, false));
                    }
                }
            }
        }
    }

    private static void removeThingNumbers() {
        Checks.sentence("those behind it get numbers that are smaller by 1.");
        AccessSpread x = Checks.loaded("Rpsb");
        x.removeThing(2);
        Checks.dueThrow("the last one is no more", Checks.INDEX, () -> x.removeThing(2));
        x.removeThing(0);
        Checks.dueSeen("the second is the first", x, "10 - ");
        Checks.due("the only one", x.removeThing(0), 0);
        Checks.due("none are left", x.about(0), 0);
        Checks.dueThrow("of none", Checks.INDEX, () -> x.removeThing(0));
    }

    private static void removeThingCounts() {
        Checks.sentence("Returns the number of rights that go.");
        Checks.due("none", Checks.loaded("Rbbb/0t2").removeThing(1), 0);
        Checks.due("its own", Checks.loaded("Rbbb/1t21g01r0").removeThing(1), 3);
        Checks.due("those over it", Checks.loaded("Rbbb/0t12w12r1").removeThing(1), 3);
        Checks.due("both", Checks.loaded("Rbbb/0t11t00w2").removeThing(1), 2);
        Checks.due("of 30", Checks.loaded("Rbbbb" + Checks.THIRTY_RIGHTS).removeThing(0), 12 + 4 + 4);
    }

    private static void wake() {
        Checks.sentence("Wakes a person, or sends it to sleep.");
        AccessSpread x = Checks.loaded("Rpbbpbs/0t11r25t2");
        Checks.due("to sleep", x.wake(0, false), 3);
        Checks.due("asleep still", x.wake(0, false), 3);
        Checks.due("awake ones", x.about(2), 1);
        Checks.due("persons", x.about(1), 3);
        Checks.due("awake", x.wake(0, true), 4);
        Checks.due("awake still", x.wake(0, true), 4);
        Checks.due("the last one", x.wake(5, true), 4);
        Checks.due("awake ones then", x.about(2), 3);
        Checks.due("rights that there are", x.about(3), 3);
        Checks.due("more than 30 at the end", Checks.loaded(Checks.SPREADS_TO_ALL).wake(6, false), 168);
        Checks.due("all that is there", Checks.loaded("Rp").wake(0, true), 0);
    }

    private static void wakeBox() {
        Checks.sentence("Throws IllegalStateException if it is a box");
        AccessSpread x = Checks.loaded("Rpb");
        Checks.dueThrow("wake(1, true)", Checks.STATE, () -> x.wake(1, true));
        Checks.dueThrow("wake(1, false)", Checks.STATE, () -> x.wake(1, false));
        Checks.due("awake ones", x.about(2), 1);
    }

    private static void set() {
        Checks.sentence("Returns whether x had it.");
        AccessSpread x = Checks.loaded("Rbbbbbbb");
        int[][] rights = {{0, 0, 1}, {0, 3, 6}, {6, 0, 0}, {6, 3, 5}, {3, 1, 4}};
        for (int[] r : rights) {
            Checks.due("removed before it was there", x.set(r[0], r[1], r[2], false), false);
            Checks.due("added", x.set(r[0], r[1], r[2], true), false);
            Checks.due("added again", x.set(r[0], r[1], r[2], true), true);
            Checks.due("it is there", x.rights(r[0], r[2], false), 1 << r[1]);
            Checks.due("rights", x.about(3), 1);
            Checks.due("removed", x.set(r[0], r[1], r[2], false), true);
            Checks.due("rights then", x.about(3), 0);
        }
    }

    private static void setFull() {
        Checks.sentence("Throws IllegalStateException if it is to be added, is not there, and there are 30 rights");
        AccessSpread x = Checks.loaded("Rbbbb" + Checks.THIRTY_RIGHTS);
        Checks.dueThrow("to be added, not there, 30", Checks.STATE, () -> x.set(3, 3, 2, true));
        Checks.due("to be added, there, 30", x.set(0, 0, 1, true), true);
        Checks.due("to be removed, not there, 30", x.set(3, 3, 2, false), false);
        Checks.due("to be removed, there, 30", x.set(0, 0, 1, false), true);
        Checks.due("to be added, not there, 29", x.set(3, 3, 2, true), false);
        Checks.dueThrow("the first one again", Checks.STATE, () -> x.set(0, 0, 1, true));
        Checks.due("rights", x.about(3), 30);
    }

    private static void takeAnswers() {
        Checks.sentence("Returns the number of rights then (as before, if the right was there).");
        AccessSpread x = Checks.loaded("Rpbb/0t11r21w2");
        Checks.due("take of one that was not there", x.take(0, 1, 2, 2), 4);
        Checks.due("take of one that was there", x.take(0, 1, 2, 2), 4);
        Checks.due("take of the last kind", x.take(0, 1, 3, 2), 5);
        AccessSpread last = Checks.loaded("Rbbbbbbp/6t00t5");
        Checks.due("take by the last thing", last.take(6, 0, 0, 5), 3);
    }

    /** Of the rights of 2, those to take and to give over 1 are there, those to read and to write are not. */
    private static void takeFull() {
        Checks.sentence("Throws IllegalStateException if p cannot take it, or there would be more than 30 rights");
        AccessSpread x = Checks.loaded("Rpppp" + Checks.THIRTY_RIGHTS);
        Checks.dueThrow("a 31st", Checks.STATE, () -> x.take(2, 0, 2, 1));
        Checks.due("one that is there, with 30", x.take(2, 0, 1, 1), 30);
        x.set(1, 3, 3, false);
        Checks.due("a 30th", x.take(2, 0, 2, 1), 30);
        Checks.dueThrow("a 31st again", Checks.STATE, () -> x.take(2, 0, 3, 1));
        Checks.due("rights", x.about(3), 30);
        AccessSpread few = Checks.loaded("Rsbbp/0t11r23t2");
        Checks.dueThrow("by one who is asleep", Checks.STATE, () -> few.take(0, 1, 2, 2));
        Checks.dueThrow("by a box", Checks.STATE, () -> few.take(1, 0, 0, 2));
        Checks.dueThrow("without the right to take", Checks.STATE, () -> few.take(3, 1, 2, 2));
        Checks.dueThrow("of one that is nowhere", Checks.STATE, () -> few.take(3, 2, 2, 1));
    }

    private static void giveAnswers() {
        Checks.sentence("Returns the number of rights then (as before, if the right was there).");
        AccessSpread x = Checks.loaded("Rpbb/0g10r20w2");
        Checks.due("give of one that was not there", x.give(0, 1, 2, 2), 4);
        Checks.due("give of one that was there", x.give(0, 1, 2, 2), 4);
        Checks.due("give of the last kind", x.give(0, 1, 3, 2), 5);
        AccessSpread last = Checks.loaded("Rbbbbbbp/6g06t5");
        Checks.due("give by the last thing", last.give(6, 0, 0, 5), 3);
        Checks.due("what is given", last.rights(0, 5, false), 1);
    }

    private static void giveFull() {
        Checks.sentence("Throws IllegalStateException if p cannot give it, or there would be more than 30 rights");
        AccessSpread x = Checks.loaded("Rpppp" + Checks.THIRTY_RIGHTS);
        Checks.dueThrow("a 31st", Checks.STATE, () -> x.give(0, 2, 2, 1));
        Checks.due("one that is there, with 30", x.give(0, 2, 1, 1), 30);
        x.set(1, 3, 3, false);
        Checks.due("a 30th", x.give(0, 3, 0, 2), 30);
        Checks.dueThrow("a 31st again", Checks.STATE, () -> x.give(0, 2, 2, 1));
        Checks.due("rights", x.about(3), 30);
        AccessSpread few = Checks.loaded("Rsbbp/0g10r23g2");
        Checks.dueThrow("by one who is asleep", Checks.STATE, () -> few.give(0, 1, 2, 2));
        Checks.dueThrow("by a box", Checks.STATE, () -> few.give(1, 0, 0, 2));
        Checks.dueThrow("without the right to give", Checks.STATE, () -> few.give(3, 1, 1, 2));
        Checks.dueThrow("of one that p has not", Checks.STATE, () -> few.give(3, 2, 2, 1));
    }

    private static void undo() {
        Checks.sentence("Throws IllegalStateException if none is remembered");
        AccessSpread x = new AccessSpread();
        Checks.dueThrow("undo() of a new object", Checks.STATE, x::undo);
        x.addThing(true);
        Checks.due("undo()", x.undo(), 0);
        Checks.dueThrow("undo() once more", Checks.STATE, x::undo);
        x.addThing(true);
        Checks.dueThrow("wake(9, true)", Checks.INDEX, () -> x.wake(9, true));
        Checks.due("undo() after a call that threw", x.undo(), 0);
        Checks.due("things", x.about(0), 0);
        Checks.due("sleeper()", x.sleeper(), NONE);
    }
}
