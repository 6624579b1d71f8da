/** Promises 25 and 26: runScript, simulate. */
public final class ScriptsTest {
    private static final int NONE = AccessSpread.NONE;
    private static final long BASE = 100000;

    public static void main(String[] args) {
        wrongScripts();
        steps();
        sets();
        wakes();
        removes();
        questions();
        otherGroups();
        order();
        simulate();
        Checks.end();
    }

    private static AccessSpread small() {
        return Checks.loaded("Rpbbs/0t11r21w30g23t10r3");
    }

    private static void ends(AccessSpread x, long group, boolean well) {
        Checks.due("command " + group, x.runScript(1, group), well ? NONE : 0);
        Checks.due("command 2 is " + group, x.runScript(2, 80999 * BASE + group), well ? NONE : 1);
    }

    private static void wrongScripts() {
        AccessSpread x = small();
        Checks.dueThrow("n = 0", Checks.ARGUMENT, () -> x.runScript(0, 0));
        Checks.dueThrow("n = -1", Checks.ARGUMENT, () -> x.runScript(-1, 0));
        Checks.dueThrow("n = 4", Checks.ARGUMENT, () -> x.runScript(4, 0));
        Checks.dueThrow("script = -1", Checks.ARGUMENT, () -> x.runScript(1, -1));
        Checks.dueThrow("script = MIN", Checks.ARGUMENT, () -> x.runScript(3, Long.MIN_VALUE));
        Checks.dueThrow("script = MAX", Checks.ARGUMENT, () -> x.runScript(3, Long.MAX_VALUE));
        Checks.dueThrow("6 digits", Checks.ARGUMENT, () -> x.runScript(1, BASE));
        Checks.due("5 digits", x.runScript(1, BASE - 1), 0);
        Checks.dueThrow("11 digits", Checks.ARGUMENT, () -> x.runScript(2, BASE * BASE));
        Checks.due("10 digits", x.runScript(2, BASE * BASE - 1), 0);
        Checks.dueThrow("16 digits", Checks.ARGUMENT, () -> x.runScript(3, BASE * BASE * BASE));
        Checks.due("15 digits", x.runScript(3, BASE * BASE * BASE - 1), 0);
        Checks.due("no digits", x.runScript(3, 0), 0);
    }

    private static void steps() {
        AccessSpread x = small();
        ends(x, 10122, true);
        ends(x, 10133, true);
        ends(x, 10132, false);
        ends(x, 10123, false);
        ends(x, 10142, false);
        ends(x, 10422, false);
        ends(x, 14122, false);
        ends(x, 10124, false);
        ends(x, 10121, false);
        ends(x, 13122, false);
        ends(x, 11022, false);
        ends(x, 20223, true);
        ends(x, 20201, true);
        ends(x, 20233, false);
        ends(x, 20123, false);
        ends(x, 20243, false);
        ends(x, 20220, false);
        // 4 is no right, though the thing behind 1 has the right 0 over 3
        AccessSpread many = Checks.loaded("Rpbbbbbb/0t12t31r50g62t50r1");
        ends(many, 10143, false);
        ends(many, 10125, true);
        ends(many, 20621, true);
        ends(many, 20641, false);
        Checks.due("a take is done", x.runScript(2, 10122 * BASE + 60220), NONE);
        Checks.due("without it", x.runScript(1, 60220), 0);
        Checks.due("a give is done", x.runScript(2, 20223 * BASE + 62230), NONE);
        Checks.due("a copy: nothing has come", x.about(3), 6);
        AccessSpread full = Checks.loaded("Rppbb/0t10g10r10w10t20g20r20w20t30g30r3"
            + "1t01g01r01w01t21g21r21w21t31g31r31w32t02g02r02w02t12g12r1");
        ends(full, 10133, false);
        ends(full, 10132, true);
        Checks.due("room is made", full.runScript(2, 32000 * BASE + 10133), NONE);
    }

    private static void sets() {
        AccessSpread x = small();
        ends(x, 32301, true);
        ends(x, 32300, true);
        ends(x, 32302, false);
        ends(x, 32309, false);
        ends(x, 32401, false);
        ends(x, 34301, false);
        ends(x, 32341, false);
        ends(x, 32321, false);
        Checks.due("it is set", x.runScript(2, 32301 * BASE + 62300), NONE);
        Checks.due("it is not set", x.runScript(2, 30010 * BASE + 60010), 1);
        AccessSpread full = Checks.loaded("Rppbb/0t10g10r10w10t20g20r20w20t30g30r3"
            + "1t01g01r01w01t21g21r21w21t31g31r31w32t02g02r02w02t12g12r1");
        ends(full, 33001, false);
        ends(full, 33000, true);
        ends(full, 30011, true);
        Checks.due("room is made", full.runScript(2, 30010 * BASE + 33001), NONE);
    }

    private static void wakes() {
        AccessSpread x = small();
        ends(x, 43100, true);
        ends(x, 43000, true);
        ends(x, 43200, false);
        ends(x, 43110, false);
        ends(x, 43101, false);
        ends(x, 41100, false);
        ends(x, 44100, false);
        Checks.due("it takes when awake", x.runScript(2, 43100 * BASE + 13122), NONE);
        Checks.due("it does not when asleep", x.runScript(2, 40000 * BASE + 10122), 1);
    }

    private static void removes() {
        AccessSpread x = small();
        ends(x, 53000, true);
        ends(x, 54000, false);
        ends(x, 53100, false);
        ends(x, 53010, false);
        ends(x, 53001, false);
        Checks.due("those behind come nearer", x.runScript(2, 51000 * BASE + 60220), NONE);
        Checks.due("and the last is no more", x.runScript(2, 51000 * BASE + 53000), 1);
        Checks.due("all can go", x.runScript(3, (53000 * BASE + 52000) * BASE + 51000), NONE);
        Checks.due("a copy: no thing has gone", x.about(0), 4);
    }

    private static void questions() {
        AccessSpread x = small();
        ends(x, 60010, true);
        ends(x, 60120, true);
        ends(x, 60220, false);
        ends(x, 60011, false);
        ends(x, 60110, false);
        ends(x, 60410, false);
        ends(x, 60040, false);
        ends(x, 60000, false);
        ends(x, 70220, true);
        ends(x, 70330, true);
        ends(x, 70010, true);
        ends(x, 72010, true);
        ends(x, 71010, false);
        ends(x, 70221, false);
        ends(x, 74220, false);
        ends(x, 72420, false);
        int atEnd = x.about(4);
        ends(x, 80000 + atEnd, true);
        ends(x, 80000 + atEnd - 1, false);
        ends(x, 80100, true);
        ends(x, 81100, false);
        ends(x, 90300, true);
        ends(x, 93000, false);
        ends(x, 90200, false);
        ends(x, 90301, false);
        ends(x, 90310, false);
        ends(x, 90000, false);
        ends(x, 90400, false);
        ends(x, 94000, false);
        Checks.due("learns after a take", x.runScript(2, 10122 * BASE + 90200), NONE);
    }

    private static void otherGroups() {
        AccessSpread x = small();
        ends(x, 0, false);
        ends(x, 1, false);
        ends(x, 122, false);
        ends(x, 9999, false);
        AccessSpread none = new AccessSpread();
        for (int d = 1; d <= 9; d++) {
            Checks.due("no things: " + d + "0000", none.runScript(1, d * 10000L), d == 8 ? NONE : 0);
        }
    }

    private static void order() {
        AccessSpread x = small();
        Checks.due("the first fails", x.runScript(3, (60220 * BASE + 60010) * BASE + 60010), 0);
        Checks.due("the second fails", x.runScript(3, (60010 * BASE + 60220) * BASE + 60010), 1);
        Checks.due("the third fails", x.runScript(3, (60010 * BASE + 60010) * BASE + 60220), 2);
        Checks.due("none fails", x.runScript(3, (60010 * BASE + 60010) * BASE + 60010), NONE);
        Checks.due("zeros before it", x.runScript(2, 60010), 0);
        Checks.dueThrow("undo() after scripts", Checks.STATE, x::undo);
    }

    private static void simulate() {
        AccessSpread x = small();
        Checks.dueThrow("m = 0", Checks.ARGUMENT, () -> x.simulate(1, 0));
        Checks.dueThrow("m = 100", Checks.ARGUMENT, () -> x.simulate(1, 100));
        Checks.dueThrow("m = -1", Checks.ARGUMENT, () -> x.simulate(1, -1));
        Checks.due("two things", Checks.loaded("Rpp/0t11t0").simulate(5, 99), 2);
        AccessSpread three = Checks.loaded("Rppp/0t11t00t20r21g02w1");
        // seed 0, 1 try: x = 1442695040888963407, r = 167951807: p = 83975903 % 3 = 2, y = (3 + 10496987 % 2) % 3 = 1,
        // z = 0, k = 164015 % 4 = 3, and r is odd: 2 gives the right 3 over 0 to 1
        Checks.due("a try without the right to give", three.simulate(0, 1), 6);
        three.set(2, 1, 1, true);
        Checks.due("a try without the right to be given", three.simulate(0, 1), 7);
        three.set(2, 3, 0, true);
        Checks.due("a try that can be", three.simulate(0, 1), 109);
        Checks.due("a copy: nothing has come", three.about(3), 8);
        three.wake(2, false);
        Checks.due("a try by a sleeper", three.simulate(0, 1), 8);
        three.wake(2, true);
        three.set(1, 3, 0, true);
        Checks.due("a right that is there", three.simulate(0, 1), 9);
        AccessSpread full = Checks.loaded("Rpppp/0t10g10r10w10t20g20r20w20t30g30r3"
            + "1t01g01r01w01t21g21r21w21t31g31r31w32t02g02r02w02t12g12r1");
        Checks.due("no more than 30", full.simulate(Long.MIN_VALUE, 99), 30);
        full.set(0, 2, 1, false);
        full.set(0, 3, 1, false);
        int come = full.simulate(7, 99);
        Checks.due("up to 30", come % 100, 30);
        Checks.due("those that come", come / 100, 2);
        Checks.dueThrow("undo() after simulations", Checks.STATE, Checks.loaded("Rppp")::undo);
    }
}
