/** Promises 19 to 24: whyNot, needed, cut, cutAt, sleeper, danger. */
public final class WhatWouldBeTest {
    private static final int NONE = AccessSpread.NONE;

    public static void main(String[] args) {
        whyNot();
        needed();
        cutOne();
        cutTwo();
        cutNone();
        cutAtWrong();
        sleeper();
        danger();
        changesNothing();
        Checks.end();
    }

    private static void whyNot() {
        AccessSpread x = Checks.loaded("Rpsbp/0t20g32r32r11t21g30r10w21w2");
        Checks.due("a box", x.whyNot(false, 2, 0, 2, 1), 1);
        Checks.due("a box gives", x.whyNot(true, 2, 0, 2, 1), 1);
        Checks.due("asleep", x.whyNot(false, 1, 2, 2, 3), 2);
        Checks.due("asleep gives", x.whyNot(true, 1, 3, 3, 2), 2);
        Checks.due("asleep and without the right", x.whyNot(false, 1, 3, 2, 2), 2);
        Checks.due("no right to take", x.whyNot(false, 0, 3, 2, 2), 3);
        Checks.due("a right to give is no right to take", x.whyNot(false, 0, 3, 2, 1), 3);
        Checks.due("a right to take is no right to give", x.whyNot(true, 0, 2, 2, 1), 3);
        Checks.due("y has it not", x.whyNot(false, 0, 2, 3, 3), 4);
        Checks.due("p has it not", x.whyNot(true, 0, 3, 0, 1), 4);
        Checks.due("a take", x.whyNot(false, 0, 2, 2, 3), 0);
        Checks.due("a take of what is there", x.whyNot(false, 0, 2, 2, 1), 0);
        Checks.due("a give", x.whyNot(true, 0, 3, 2, 1), 0);
        Checks.due("a give of w", x.whyNot(true, 0, 3, 3, 2), 0);
        AccessSpread full = Checks.loaded("Rpbbb/0t10g10r10w10t20g20r20w20t30g30r3"
            + "1t01g01r01w01t21g21r21w21t31g31r31w32t02g02r02w02t12g12r1");
        Checks.due("30 rights", full.about(3), 30);
        Checks.due("also if there are 30", full.whyNot(false, 0, 1, 3, 3), 0);
        Checks.dueThrow("but it cannot be done", Checks.STATE, () -> full.take(0, 1, 3, 3));
    }

    private static void needed() {
        // 0 takes take over 2 from 1, then read over 4 from 2; or 3 gives read over 4 to 0
        AccessSpread x = Checks.loaded("Rpbbpb/0t11t22r43g03r4");
        Checks.due("of sets with one, the smallest", x.needed(0, 2, 4), 1);
        x.wake(0, false);
        Checks.due("the giver", x.needed(0, 2, 4), 8);
        x.wake(3, false);
        Checks.due("nobody is awake", x.needed(0, 2, 4), NONE);
        Checks.due("a right that there is", x.needed(0, 0, 1), 0);
        AccessSpread chain = Checks.loaded("Rpppb/0t11t22g00w3");
        Checks.due("0 needs nobody else", chain.needed(0, 0, 2), 1);
        Checks.due("never", chain.needed(3, 0, 2), NONE);
        // 0 gives write over 4 to 1, and 2 takes it from 1: both are needed; 3, whom nobody needs, is awake too
        AccessSpread two = Checks.loaded("Rpbppb/0g10w42t1");
        Checks.due("two persons", two.needed(2, 3, 4), 1 | 4);
        Checks.due("one person", two.needed(1, 3, 4), 1);
        two.wake(2, false);
        Checks.due("one of two sleeps", two.needed(2, 3, 4), NONE);
        // by the set {0, 1}, or by {3} alone: fewer counts more than smaller
        AccessSpread few = Checks.loaded("Rppbpb/0g20w41t23g13w4");
        Checks.due("fewer", few.needed(1, 3, 4), 8);
    }

    private static void dueCut(AccessSpread x, int[] right, int size, int first, int second) {
        String of = " of " + right[0] + right[1] + right[2];
        Checks.due("cut" + of, x.cut(right[0], right[1], right[2]), size);
        Checks.due("cutAt 0" + of, x.cutAt(right[0], right[1], right[2], 0), first);
        Checks.due("cutAt 1" + of, x.cutAt(right[0], right[1], right[2], 1), second);
    }

    private static void cutOne() {
        AccessSpread x = Checks.loaded("Rpbb/0t11r2");
        dueCut(x, new int[] {0, 2, 2}, 1, 1, NONE);
        dueCut(x, new int[] {1, 2, 2}, 1, 122, NONE);
        dueCut(x, new int[] {0, 3, 2}, 0, NONE, NONE);
        // both ways need 2's read over 3, and no other right is in both
        AccessSpread neck = Checks.loaded("Rppbb/0t21g01t22r3");
        dueCut(neck, new int[] {0, 2, 3}, 1, 223, NONE);
    }

    private static void cutTwo() {
        // two ways without a common right: by 1, and by 2
        AccessSpread x = Checks.loaded("Rpbbb/0t10t21r32r3");
        dueCut(x, new int[] {0, 2, 3}, 2, 1, 2);
        x.set(0, 0, 2, false);
        x.wake(0, true);
        dueCut(x, new int[] {0, 2, 3}, 1, 1, NONE);
        // the right is there, and can be taken again
        AccessSpread there = Checks.loaded("Rpbb/0r20t11r2");
        dueCut(there, new int[] {0, 2, 2}, 2, 1, 22);
        AccessSpread late = Checks.loaded("Rpbbpbb/0t10t21r52r53r5");
        dueCut(late, new int[] {0, 2, 5}, 2, 1, 2);
        // 3 gives what it has to 0; the first set takes the giver's first right
        AccessSpread given = Checks.loaded("Rbbbps/3g03r13t43w24r1");
        dueCut(given, new int[] {0, 2, 1}, 1, 310, NONE);
        dueCut(given, new int[] {3, 2, 1}, 2, 304, 321);
    }

    private static void cutNone() {
        AccessSpread x = Checks.loaded("Rpbbbb/0t10t20t31r42r43r4");
        dueCut(x, new int[] {0, 2, 4}, NONE, NONE, NONE);
    }

    private static void cutAtWrong() {
        AccessSpread x = Checks.loaded("Rpbb/0t11r2");
        Checks.dueThrow("cutAt with i = -1", Checks.ARGUMENT, () -> x.cutAt(0, 2, 2, -1));
        Checks.dueThrow("cutAt with i = 2", Checks.ARGUMENT, () -> x.cutAt(0, 2, 2, 2));
        Checks.dueThrow("cutAt with i = 2 and no thing", Checks.INDEX, () -> x.cutAt(0, 2, 3, 2));
    }

    private static void sleeper() {
        AccessSpread x = Checks.loaded("Rppsb/0t11r31t22w32g3");
        // 1 awake: takes write and give over 3 from 2; 0 awake: takes from 1 what 1 has
        Checks.due("with 1 asleep fewest", x.sleeper(), 0);
        Checks.due("nothing is changed", x.about(2), 2);
        AccessSpread same = Checks.loaded("Rsppp");
        Checks.due("the lowest", same.sleeper(), 1);
        AccessSpread later = Checks.loaded("Rppbb/1t22w3");
        Checks.due("one behind", later.sleeper(), 1);
        Checks.due("nobody", Checks.loaded("Rssb").sleeper(), NONE);
    }

    private static void danger() {
        // 0 could take all that 2 has, if it had the right to take over 2
        AccessSpread x = Checks.loaded("Rpbbb/2r32w32g32t1");
        Checks.due("take over 2", x.danger(), 2);
        Checks.due("nothing is changed", x.about(3), 4);
        Checks.due("of as many, the smallest", Checks.loaded("Rbb/0t1").danger(), 11);
        Checks.due("the last", Checks.loaded("Rbb/0t10g10r10w11t01g01r0").danger(), 130);
        Checks.due("all are there", Checks.loaded("Rbb/0t10g10r10w11t01g01r01w0").danger(), NONE);
        Checks.due("one thing", Checks.loaded("Rp").danger(), NONE);
        // the only one that is not there comes anyway
        AccessSpread anyway = Checks.loaded("Rpbb/0t10g10r10w10t20g20r21t01g01r01w01t21g21r21w22t02g02r02w02t12g12r12w1");
        Checks.due("one that comes anyway", anyway.danger(), 32);
        AccessSpread full = Checks.loaded("Rbbbb/0t10g10r10w10t20g20r20w20t30g30r30w3"
            + "1t01g01r01w01t21g21r21w21t31g31r31w32t02g02r02w02t12g1");
        Checks.due("with 30 rights", full.danger(), 203);
    }

    private static void changesNothing() {
        AccessSpread x = Checks.loaded("Rppsb/0t11r31t22w32g3");
        String before = Checks.seen(x);
        x.whyNot(true, 0, 1, 2, 3);
        x.needed(0, 3, 3);
        x.cut(0, 3, 3);
        x.cutAt(0, 3, 3, 0);
        x.sleeper();
        x.danger();
        Checks.dueSeen("what would be", x, before);
        Checks.dueThrow("undo() after it", Checks.STATE, x::undo);
    }
}
