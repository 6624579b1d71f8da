/** Promises 12 to 18: addThing, removeThing, wake, set, take, give, undo. */
public final class ActionsTest {
    /** 30 rights: all but six of four persons awake. */
    private static final String FULL = "Rpppp/0t10g10r10w10t20g20r20w20t30g30r30w3"
        + "1t01g01r01w01t21g21r21w21t31g31r31w32t02g02r02w02t12g1";

    public static void main(String[] args) {
        addThing();
        removeThing();
        wake();
        set();
        take();
        give();
        wrongSteps();
        undo();
        actionsThatChangeNothing();
        Checks.end();
    }

    private static void addThing() {
        AccessSpread x = new AccessSpread();
        for (int i = 0; i < 7; i++) {
            Checks.due("addThing number " + i, x.addThing(i % 2 == 0), i);
        }
        Checks.dueSeen("addThing", x, "11 -000000 00 0-00000 11 00-0000 00 000-000 11 0000-00 00 00000-0 11 000000- ");
        Checks.dueThrow("an 8th thing", Checks.STATE, () -> x.addThing(false));
        Checks.due("still 7", x.about(0), 7);
        x.removeThing(6);
        Checks.due("a new 7th", x.addThing(false), 6);
        Checks.due("a box now", x.thing(6, 0), 0);
    }

    private static void removeThing() {
        AccessSpread x = Checks.loaded("Rpsbp/0t10g21r32w03r13t02g3");
        Checks.dueThrow("removeThing(-1)", Checks.INDEX, () -> x.removeThing(-1));
        Checks.dueThrow("removeThing(4)", Checks.INDEX, () -> x.removeThing(4));
        Checks.due("removeThing(1)", x.removeThing(1), 3);
        Checks.dueSeen("removeThing(1)", x, "11 -20 00 8-2 11 10- ");
        Checks.due("removeThing(0)", x.removeThing(0), 3);
        Checks.dueSeen("removeThing(0)", x, "00 -2 11 0- ");
        Checks.due("removeThing(1) of two", x.removeThing(1), 1);
        Checks.due("removeThing(0) of one", x.removeThing(0), 0);
        Checks.dueThrow("removeThing(0) of none", Checks.INDEX, () -> x.removeThing(0));
        AccessSpread last = Checks.loaded("Rsbpbspb/6t06t15w66r56g40r1");
        Checks.due("removeThing(6)", last.removeThing(6), 5);
        Checks.due("what is left", last.rights(0, 1, false), 4);
        Checks.due("removeThing(5)", last.removeThing(5), 0);
        Checks.due("a thing added then has no rights", last.addThing(true), 5);
        Checks.due("its rights", last.thing(5, 2) + last.thing(5, 3), 0);
    }

    private static void wake() {
        AccessSpread x = Checks.loaded("Rsbb/0t11r2");
        Checks.due("wake(0, true)", x.wake(0, true), 3);
        Checks.due("awake", x.thing(0, 1), 1);
        Checks.due("rights that there are", x.about(3), 2);
        Checks.due("wake(0, true) again", x.wake(0, true), 3);
        Checks.due("wake(0, false)", x.wake(0, false), 2);
        Checks.due("asleep", x.thing(0, 1), 0);
        Checks.due("a person still", x.thing(0, 0), 1);
        Checks.dueThrow("wake(1, true)", Checks.STATE, () -> x.wake(1, true));
        Checks.dueThrow("wake(1, false)", Checks.STATE, () -> x.wake(1, false));
        Checks.dueThrow("wake(-1, true)", Checks.INDEX, () -> x.wake(-1, true));
        Checks.dueThrow("wake(3, true)", Checks.INDEX, () -> x.wake(3, true));
    }

    private static void set() {
        AccessSpread x = Checks.loaded("Rbb");
        Checks.due("set(0, 3, 1, true)", x.set(0, 3, 1, true), false);
        Checks.due("set(0, 3, 1, true) again", x.set(0, 3, 1, true), true);
        Checks.dueSeen("set", x, "00 -8 00 0- ");
        Checks.due("set(0, 3, 1, false)", x.set(0, 3, 1, false), true);
        Checks.due("set(0, 3, 1, false) again", x.set(0, 3, 1, false), false);
        Checks.dueSeen("set to false", x, "00 -0 00 0- ");
        AccessSpread full = Checks.loaded(FULL);
        Checks.due("full", full.about(3), 30);
        Checks.dueThrow("a 31st right", Checks.STATE, () -> full.set(3, 0, 0, true));
        Checks.dueThrow("a 31st right of nobody", Checks.INDEX, () -> full.set(4, 0, 0, true));
        Checks.dueThrow("a 31st right over itself", Checks.ARGUMENT, () -> full.set(3, 0, 3, true));
        Checks.due("one that is there", full.set(0, 0, 1, true), true);
        Checks.due("one that is not there, to be removed", full.set(3, 0, 0, false), false);
        Checks.due("one that goes", full.set(0, 0, 1, false), true);
        Checks.due("one that comes", full.set(3, 0, 0, true), false);
    }

    private static void take() {
        AccessSpread x = Checks.loaded("Rpbbs/0t11r21w33t11g0");
        Checks.due("take", x.take(0, 1, 2, 2), 5 + 1);
        Checks.due("take again", x.take(0, 1, 2, 2), 6);
        Checks.dueSeen("take", x, "11 -140 00 2-48 00 00-0 10 010- ");
        Checks.dueThrow("take of a right that 1 has not", Checks.STATE, () -> x.take(0, 1, 3, 2));
        Checks.dueThrow("take from a thing that it cannot take from", Checks.STATE, () -> x.take(0, 2, 2, 1));
        Checks.dueThrow("take by a sleeper", Checks.STATE, () -> x.take(3, 1, 2, 2));
        Checks.dueThrow("take by a box", Checks.STATE, () -> x.take(1, 2, 2, 3));
        Checks.due("take of the other", x.take(0, 1, 3, 3), 7);
        AccessSpread full = Checks.loaded(FULL);
        full.set(0, 2, 3, false);
        full.set(3, 0, 0, true);
        Checks.dueThrow("take of a 31st", Checks.STATE, () -> full.take(0, 1, 2, 3));
        Checks.due("take of one that is there", full.take(0, 1, 3, 3), 30);
        full.set(3, 0, 0, false);
        Checks.due("take of a 30th", full.take(0, 1, 2, 3), 30);
    }

    private static void give() {
        AccessSpread x = Checks.loaded("Rpbbs/0g10r20w23g13r21g20g3");
        Checks.due("give", x.give(0, 1, 2, 2), 8);
        Checks.due("give again", x.give(0, 1, 2, 2), 8);
        Checks.due("give to a sleeper", x.give(0, 3, 3, 2), 9);
        Checks.dueSeen("give", x, "11 -2c2 00 0-60 00 00-0 10 02c- ");
        Checks.dueThrow("give of a right that it has not", Checks.STATE, () -> x.give(0, 1, 0, 2));
        Checks.dueThrow("give to a thing that it cannot give to", Checks.STATE, () -> x.give(0, 2, 1, 1));
        Checks.dueThrow("give by a sleeper", Checks.STATE, () -> x.give(3, 1, 2, 2));
        Checks.dueThrow("give by a box", Checks.STATE, () -> x.give(1, 2, 2, 3));
        AccessSpread full = Checks.loaded(FULL);
        Checks.dueThrow("give of a 31st", Checks.STATE, () -> full.give(0, 2, 2, 1 + 2));
        Checks.dueThrow("give of another 31st", Checks.STATE, () -> full.give(0, 3, 2, 1));
        Checks.due("give of one that is there", full.give(0, 1, 2, 3), 30);
        full.set(0, 0, 1, false);
        Checks.due("give of a 30th", full.give(0, 3, 2, 1), 30);
        Checks.due("it has come", full.rights(3, 1, false), 4);
    }

    private static void wrongSteps() {
        AccessSpread x = Checks.loaded("Rpbbs/0t10g11r2");
        int[][] calls = {
            {-1, 1, 0, 2, 1}, {4, 1, 0, 2, 1}, {0, -1, 0, 2, 1}, {0, 4, 0, 2, 1}, {0, 1, 0, -1, 1}, {0, 1, 0, 4, 1},
            {0, 0, 0, 4, 1}, {0, 1, -1, 4, 1}, {9, 9, 9, 9, 1},
            {0, 0, 2, 2, 2}, {0, 1, 2, 0, 2}, {0, 1, 2, 1, 2}, {0, 1, -1, 2, 2}, {0, 1, 4, 2, 2}, {1, 1, 1, 1, 2},
        };
        for (int[] c : calls) {
            String with = "(" + c[0] + ", " + c[1] + ", " + c[2] + ", " + c[3] + ")";
            Checks.dueThrow("take" + with, c[4], () -> x.take(c[0], c[1], c[2], c[3]));
            Checks.dueThrow("give" + with, c[4], () -> x.give(c[0], c[1], c[2], c[3]));
            Checks.dueThrow("whyNot" + with, c[4], () -> x.whyNot(false, c[0], c[1], c[2], c[3]));
            Checks.dueThrow("whyNot gives" + with, c[4], () -> x.whyNot(true, c[0], c[1], c[2], c[3]));
        }
        Checks.dueThrow("undo() after calls that threw", Checks.STATE, x::undo);
    }

    private static void undo() {
        AccessSpread x = Checks.loaded("Rpbb/0t11r20g1");
        x.take(0, 1, 2, 2);
        x.give(0, 1, 2, 2);
        x.wake(0, false);
        x.removeThing(0);
        x.addThing(true);
        Checks.dueSeen("five actions", x, "00 -40 00 0-0 11 00- ");
        Checks.due("undo() of addThing", x.undo(), 4);
        Checks.dueSeen("undo() of addThing", x, "00 -4 00 0- ");
        Checks.due("undo() of removeThing", x.undo(), 3);
        Checks.dueSeen("undo() of removeThing", x, "10 -34 00 0-4 00 00- ");
        Checks.due("undo() of wake", x.undo(), 2);
        Checks.due("awake again", x.thing(0, 1), 1);
        Checks.due("undo() of give", x.undo(), 1);
        Checks.due("undo() of take", x.undo(), 0);
        Checks.dueSeen("undo() of take", x, "11 -30 00 0-4 00 00- ");
        Checks.dueThrow("undo() of nothing", Checks.STATE, x::undo);
        for (int i = 0; i < 14; i++) {
            x.set(2, i / 2 % 4, 0, i % 2 == 0);
        }
        x.addThing(true);
        x.addThing(true);
        for (int i = 13; i >= 0; i--) {
            Checks.due("undo() with " + i + " left", x.undo(), i);
        }
        Checks.dueThrow("undo() of a forgotten one", Checks.STATE, x::undo);
        Checks.dueSeen("the oldest that was remembered", x, "11 -30 00 0-4 00 00- ");
    }

    /** Calls that do not throw are actions, also if nothing becomes different; what throws, asks or saves is none. */
    private static void actionsThatChangeNothing() {
        AccessSpread x = Checks.loaded("Rpbb/0t11r20r20g1");
        x.set(0, 0, 1, true);
        x.wake(0, true);
        x.take(0, 1, 2, 2);
        x.give(0, 1, 2, 2);
        Checks.dueThrow("a take that cannot be", Checks.STATE, () -> x.take(0, 1, 3, 2));
        Checks.dueThrow("a wake that cannot be", Checks.STATE, () -> x.wake(1, true));
        x.about(4);
        x.sleeper();
        x.danger();
        x.runScript(1, 50000);
        x.simulate(1, 9);
        x.save(0);
        x.clearText();
        x.append('R');
        x.errorPosition();
        Checks.due("undo() after four actions", x.undo(), 3);
        Checks.dueSeen("nothing has changed", x, "11 -34 00 0-4 00 00- ");
    }
}
