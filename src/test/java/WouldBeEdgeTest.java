/** The sentences of the promises 19 to 24 that name a boundary. */
public final class WouldBeEdgeTest {
    private static final int NONE = AccessSpread.NONE;

    public static void main(String[] args) {
        whyNot();
        whyNotZero();
        neededFewest();
        neededSmallest();
        neededNone();
        neededOfThoseAwake();
        cutZero();
        cutOneAndTwo();
        cutNone();
        cutAtNotSoMany();
        cutAtOrder();
        cutAtRange();
        sleeperLowest();
        sleeperNone();
        dangerSmallest();
        dangerWithThirty();
        dangerNone();
        changeNothing();
        Checks.end();
    }

    /** All that can be, each time the first one that applies: p may be a box, asleep, lack one right or both. */
    private static void whyNot() {
        Checks.sentence("the first one of these that applies: 1: p is a box; 2: p is asleep; 3: p has not the right over y "
            + "that it needs; 4: the one from whom the right k over z would come (y, or p) has not got it.");
        for (int which = 0; which < 24; which++) {
            boolean gives = which % 2 == 1;
            boolean hasFirst = which / 2 % 2 == 1;
            boolean hasSecond = which / 4 % 2 == 1;
            char p = "pbs".charAt(which / 8);
            AccessSpread x = Checks.loaded("Rbb" + p);
            x.set(2, gives ? 1 : 0, 0, hasFirst);
            x.set(2, gives ? 0 : 1, 0, true);
            x.set(gives ? 2 : 0, 3, 1, hasSecond);
            x.set(gives ? 0 : 2, 3, 1, true);
            int want = p == 'b' ? 1 : p == 's' ? 2 : !hasFirst ? 3 : !hasSecond ? 4 : 0;
            Checks.due("whyNot " + which, x.whyNot(gives, 2, 0, 3, 1), want);
        }
    }

    private static void whyNotZero() {
        Checks.sentence("Returns 0 if it can be done (also if there are 30 rights, or the right is there already)");
        AccessSpread x = Checks.loaded("Rpppp" + Checks.THIRTY_RIGHTS);
        Checks.due("a take with 30 rights", x.whyNot(false, 2, 0, 2, 1), 0);
        Checks.due("a give with 30 rights", x.whyNot(true, 0, 2, 2, 1), 0);
        Checks.dueThrow("the take itself", Checks.STATE, () -> x.take(2, 0, 2, 1));
        Checks.dueThrow("the give itself", Checks.STATE, () -> x.give(0, 2, 2, 1));
        Checks.due("a take of what is there already", Checks.loaded("Rpbb/0t10r21r2").whyNot(false, 0, 1, 2, 2), 0);
        Checks.due("a give of what is there already", Checks.loaded("Rpbb/0g10r21r2").whyNot(true, 0, 1, 2, 2), 0);
    }

    private static void neededFewest() {
        Checks.sentence("Returns the fewest persons of those who are awake now, bit i set for the thing i, so that x has the "
            + "right at the end of the spread if all other persons are asleep");
        // 0 gives it to 1, and 2 takes it from 1; or 6 gives it
        AccessSpread x = Checks.loaded("Rpbpbpbp/0g10w32t16g26w3");
        Checks.due("one, though the two have a smaller number", x.needed(2, 3, 3), 64);
        x.set(6, 1, 2, false);
        Checks.due("both", x.needed(2, 3, 3), 1 | 4);
        Checks.due("one of the two for what comes before", x.needed(1, 3, 3), 1);
        Checks.due("nobody for what is there", x.needed(0, 3, 3), 0);
        // each gives to the next one
        AccessSpread line = Checks.loaded("Rpppppps/0g11g22g33g44g55g60r6");
        for (int i = 0; i <= 5; i++) {
            Checks.due("a line up to " + i, line.needed(i, 2, 6), (1 << i) - 1);
        }
        AccessSpread all = Checks.loaded("Rppppppp/0g11g22g33g44g55g60r10r2");
        Checks.due("a line up to the last thing", all.needed(6, 2, 2), NONE);
    }

    private static void neededSmallest() {
        Checks.sentence("of sets with as few the smallest number");
        // 0 gives to 3 and 3 to 4; or 1 to 2 and 2 to 4
        AccessSpread x = Checks.loaded("Rppppbbb/0g33g41g22g40r51r5");
        Checks.due("of 0 and 3, and 1 and 2", x.needed(4, 2, 5), 2 | 4);
        x.wake(1, false);
        Checks.due("of 0 and 3 alone", x.needed(4, 2, 5), 1 | 8);
        AccessSpread one = Checks.loaded("Rbpppppp/3g06g05g03r16r15r1");
        Checks.due("of one of three", one.needed(0, 2, 1), 8);
    }

    private static void neededNone() {
        Checks.sentence("NONE if it does not get it.");
        AccessSpread x = Checks.loaded("Rpsbb/0t21t22r3");
        Checks.due("a right that nobody has", x.needed(0, 3, 3), NONE);
        Checks.due("a right of a sleeper", x.needed(1, 2, 3), NONE);
        Checks.due("a right that comes", x.needed(0, 2, 3), 1);
        x.wake(0, false);
        Checks.due("a right that came before", x.needed(0, 2, 3), NONE);
        Checks.due("a right that is there", x.needed(0, 0, 2), 0);
    }

    private static void neededOfThoseAwake() {
        Checks.sentence("Returns the fewest persons of those who are awake now");
        AccessSpread x = Checks.loaded("Rspbb/0g20r31g21r3");
        Checks.due("not one who is asleep", x.needed(2, 2, 3), 2);
        x.wake(0, true);
        Checks.due("then one who is awake", x.needed(2, 2, 3), 1);
    }

    private static void dueCut(String text, int x, int k, int y, int... want) {
        AccessSpread a = Checks.loaded(text);
        boolean isNone = want.length > 2;
        Checks.due("cut of " + text, a.cut(x, k, y), isNone ? NONE : want.length);
        for (int i = 0; i <= 1; i++) {
            int right = !isNone && i < want.length ? want[i] : NONE;
            Checks.due("cutAt " + i + " of " + text, a.cutAt(x, k, y, i), right);
        }
    }

    private static void cutZero() {
        Checks.sentence("0 if it does not have it anyway");
        dueCut("Rpbb/0t11r2", 0, 3, 2);
        dueCut("Rsbb/0t11r2", 0, 2, 2);
        dueCut("Rbb", 0, 0, 1);
    }

    private static void cutOneAndTwo() {
        Checks.sentence("Returns the smallest number of rights that there are, without which x would not have the right at the "
            + "end of the spread");
        dueCut("Rbb/0t1", 0, 0, 1, 1);
        dueCut("Rbbbbbbb/6w5", 6, 3, 5, 635);
        dueCut("Rpbb/0t11r2", 0, 2, 2, 1);
        dueCut("Rpbb/0t10r21r2", 0, 2, 2, 1, 22);
        dueCut("Rpbbb/0t10t21r32r3", 0, 2, 3, 1, 2);
        dueCut("Rbbbbbbp/6t56t44w05w0", 6, 3, 0, 430, 530);
        dueCut("Rbbbbbbp/6t56w05w0", 6, 3, 0, 530, 630);
        // both ways go through the right of 2, which has the greatest number
        dueCut("Rppbb/0t21g01t22r3", 0, 2, 3, 223);
    }

    private static void cutNone() {
        Checks.sentence("NONE if 2 do not do.");
        dueCut("Rpbbbb/0t10t20t31r42r43r4", 0, 2, 4, 0, 0, 0);
        dueCut("Rpbbbb/0t10t20r41r42r4", 0, 2, 4, 0, 0, 0);
        dueCut("Rpbbbb/0t10t21r42r4", 0, 2, 4, 1, 2);
        // 0 alone has this right at first
        dueCut(Checks.SPREADS_TO_ALL, 3, 0, 4, 4);
    }

    private static void cutAtNotSoMany() {
        Checks.sentence("NONE if the set has not so many, or cut() is NONE.");
        AccessSpread x = Checks.loaded("Rpbbbb/0t10t20t31r42r43r40w1");
        Checks.due("the first of none", x.cutAt(0, 0, 4, 0), NONE);
        Checks.due("the second of none", x.cutAt(0, 0, 4, 1), NONE);
        Checks.due("the first of one", x.cutAt(0, 3, 1, 0), 31);
        Checks.due("the second of one", x.cutAt(0, 3, 1, 1), NONE);
        Checks.due("the first, if 2 do not do", x.cutAt(0, 2, 4, 0), NONE);
        Checks.due("the second, if 2 do not do", x.cutAt(0, 2, 4, 1), NONE);
        x.set(0, 0, 3, false);
        Checks.due("the first of two", x.cutAt(0, 2, 4, 0), 1);
        Checks.due("the second of two", x.cutAt(0, 2, 4, 1), 2);
    }

    private static void cutAtOrder() {
        Checks.sentence("Of two sets the one is first whose first right has the smaller number, of several that whose second "
            + "one has it.");
        // the sets are 1 and 301, 112 and 203, 112 and 301: the first one has not the smallest second right
        dueCut("Rpppp/0t11g22t33t1", 2, 0, 1, 1, 301);
        dueCut("Rbppbpbb/2t13t22g55t4", 5, 0, 4, 504);
        // either of 1 and 123, and either of 2 and 223: four sets
        dueCut("Rpbbb/0t10t21r32r3", 0, 2, 3, 1, 2);
        // of sets with one right: any of the whole line
        dueCut("Rpbbbbbb/0t11t22t33t44t55r6", 0, 2, 6, 1);
        dueCut("Rbbbbbbp/6t55t44t33t22t11r0", 6, 2, 0, 120);
    }

    private static void cutAtRange() {
        Checks.sentence("Throws IllegalArgumentException if x and y are the same, or k or i is out of range");
        AccessSpread x = Checks.loaded("Rpbb/0t11r2");
        Checks.due("i = 0", x.cutAt(0, 2, 2, 0), 1);
        Checks.due("i = 1", x.cutAt(0, 2, 2, 1), NONE);
        for (int i : new int[] {-1, 2, 3, -9, Integer.MIN_VALUE, Integer.MAX_VALUE}) {
            Checks.dueThrow("i = " + i, Checks.ARGUMENT, () -> x.cutAt(0, 2, 2, i));
            Checks.dueThrow("i = " + i + " of none", Checks.ARGUMENT, () -> x.cutAt(0, 3, 2, i));
        }
        Checks.dueThrow("the same", Checks.ARGUMENT, () -> x.cutAt(0, 2, 0, 0));
        Checks.dueThrow("k = 4", Checks.ARGUMENT, () -> x.cutAt(0, 4, 2, 0));
        Checks.dueThrow("k = -1", Checks.ARGUMENT, () -> x.cutAt(0, -1, 2, 0));
    }

    private static void sleeperLowest() {
        Checks.sentence("Returns the awake person with whom asleep there would be fewest rights at the end of the spread, among "
            + "several the lowest one");
        Checks.due("all bar nothing", Checks.loaded("Rspp").sleeper(), 1);
        Checks.due("the last one alone", Checks.loaded("Rbbbbbsp").sleeper(), 6);
        Checks.due("two bar as much", Checks.loaded("Rbbpbpbb/2t02t14t04t10r1").sleeper(), 2);
        Checks.due("the second bars more", Checks.loaded("Rpbpbb/0t11r32t44r34w3").sleeper(), 2);
        Checks.due("the last one bars most", Checks.loaded("Rpbbbbbp/6t11r21r31r40t1").sleeper(), 0);
        Checks.due("a sleeper counts not", Checks.loaded("Rspbb/0t22r32w3").sleeper(), 1);
    }

    private static void sleeperNone() {
        Checks.sentence("NONE if nobody is awake.");
        Checks.due("no things", new AccessSpread().sleeper(), NONE);
        Checks.due("boxes", Checks.loaded("Rbbbbbbb").sleeper(), NONE);
        Checks.due("sleepers", Checks.loaded("Rsbssbss").sleeper(), NONE);
        AccessSpread x = Checks.loaded("Rp");
        Checks.due("one who is awake", x.sleeper(), 0);
        x.wake(0, false);
        Checks.due("one who is asleep", x.sleeper(), NONE);
        x.undo();
        x.removeThing(0);
        Checks.due("one who is no more", x.sleeper(), NONE);
    }

    private static void dangerSmallest() {
        Checks.sentence("Returns the right, as its number 100 * (thing) + 10 * (right) + (other thing), that is not there and "
            + "with which there would be most rights at the end of the spread, among several the smallest number");
        Checks.due("the first of all", Checks.loaded("Rbb").danger(), 1);
        Checks.due("the second of all", Checks.loaded("Rbb/0t1").danger(), 11);
        Checks.due("the last of all", Checks.loaded("Rbb/0t10g10r10w11t01g01r0").danger(), 130);
        // who may take over 4 gets three rights more
        Checks.due("the last person", Checks.loaded("Rbbbbbbp/4t04g14r2").danger(), 604);
        Checks.due("of two persons the lower one", Checks.loaded("Rbbbpbbp/4t04g14r2").danger(), 304);
        Checks.due("the last thing as y", Checks.loaded("Rpbbbbbb/6t16g26r3").danger(), 6);
    }

    private static void dangerWithThirty() {
        Checks.sentence("(the limit of 30 rights does not matter)");
        Checks.due("with 30 boxes' rights", Checks.loaded("Rbbbb" + Checks.THIRTY_RIGHTS).danger(), 203);
        // 4 could take all rights of 0
        Checks.due("with 30 rights", Checks.loaded("Rsssbp" + Checks.THIRTY_RIGHTS).danger(), 400);
    }

    private static void dangerNone() {
        Checks.sentence("NONE if all rights are there (or there are fewer than two things).");
        Checks.due("no things", new AccessSpread().danger(), NONE);
        Checks.due("one box", Checks.loaded("Rb").danger(), NONE);
        Checks.due("one person", Checks.loaded("Rp").danger(), NONE);
        AccessSpread x = Checks.loaded("Rpp/0t10g10r10w11t01g01r01w0");
        Checks.due("all rights of two things", x.danger(), NONE);
        x.set(1, 3, 0, false);
        Checks.due("all but one", x.danger(), 130);
        AccessSpread three = Checks.loaded("Rbbb/0t10g10r10w10t20g20r20w21t01g01r01w01t21g21r21w22t02g02r02w02t12g12r12w1");
        Checks.due("all rights of three things", three.danger(), NONE);
        three.addThing(false);
        Checks.due("and a fourth thing", three.danger(), 3);
    }

    private static void changeNothing() {
        Checks.sentence("what would be; these and all following methods up to the save slots change nothing.");
        AccessSpread x = acted();
        x.whyNot(false, 0, 1, 2, 2);
        x.whyNot(true, 0, 1, 2, 2);
        for (int y = 1; y < 4; y++) {
            for (int k = 0; k < 4; k++) {
                x.needed(0, k, y);
                x.cut(0, k, y);
                x.cutAt(0, k, y, 0);
                x.cutAt(0, k, y, 1);
            }
        }
        x.sleeper();
        x.danger();
        x.runScript(3, 101222012330011L);
        x.runScript(3, 413005000042100L);
        x.simulate(77, 99);
        Checks.dueText("what would be left", Checks.drained(x), Checks.drained(acted()));
    }

    private static AccessSpread acted() {
        AccessSpread x = Checks.loaded("Rpsbpb/0t11r20g30t22g43w1");
        x.save(1);
        x.take(0, 1, 2, 2);
        x.wake(1, true);
        x.addThing(true);
        Checks.write(x, "Rp/");
        return x;
    }
}
