/** The sentences under "What it is" and "Terms" that name a boundary of things, rights, steps, spreads and learning. */
public final class TermsEdgeTest {
    private static final int NONE = AccessSpread.NONE;

    public static void main(String[] args) {
        uses();
        things();
        kindsOfRights();
        thirtyRights();
        takes();
        gives();
        keeps();
        rounds();
        comeNoMore();
        roundsEnd();
        roundZero();
        noLimitInSpreads();
        waysTakesFirst();
        waysLowerPerson();
        waysLowerThing();
        waysOfTheRound();
        proofs();
        hears();
        learns();
        none();
        Checks.end();
    }

    private static void uses() {
        Checks.sentence("An object is used for at most 512 calls after it has been made");
        AccessSpread x = new AccessSpread();
        x.addThing(true);
        x.addThing(false);
        for (int call = 3; call <= 511; call++) {
            Checks.due("call " + call, x.set(0, 2, 1, call % 2 != 0), call % 2 == 0);
        }
        Checks.due("call 512", x.undo(), 13);
        AccessSpread dear = Checks.loaded("Rpbbbb/0t10t20t31r42r43r4");
        for (int call = 1; call <= 480; call++) {
            Checks.due("a dear call " + call, dear.cutAt(0, 2, 4, 0), NONE);
        }
    }

    private static void things() {
        Checks.sentence("There are at most 7 things, numbered from 0 in the order in which they were added.");
        AccessSpread x = new AccessSpread();
        for (int i = 0; i < 7; i++) {
            Checks.due("addThing " + i, x.addThing(i % 3 == 0), i);
            Checks.due("about(0)", x.about(0), i + 1);
        }
        for (int i = 0; i < 7; i++) {
            Checks.due("thing " + i, x.thing(i, 0), i % 3 == 0 ? 1 : 0);
        }
        Checks.dueThrow("an 8th", Checks.STATE, () -> x.addThing(true));
        Checks.due("about(0) of 7", x.about(0), 7);
    }

    private static void kindsOfRights() {
        Checks.sentence("A thing can have rights over other things: the right to take (0), to give (1), to read (2), "
            + "and to write (3).");
        for (int k = 0; k <= 3; k++) {
            AccessSpread x = Checks.loaded("Rbb");
            int kind = k;
            x.set(0, k, 1, true);
            Checks.due("rights of kind " + k, x.rights(0, 1, false), 1 << k);
            Checks.due("rights of the other", x.rights(1, 0, false), 0);
            Checks.due("told as a text", Checks.loaded("Rbb/0" + "tgrw".charAt(k) + "1").rights(0, 1, false), 1 << k);
            Checks.dueThrow("over itself", Checks.ARGUMENT, () -> x.set(1, kind, 1, true));
        }
        AccessSpread x = Checks.loaded("Rbb");
        Checks.dueThrow("kind -1", Checks.ARGUMENT, () -> x.set(0, -1, 1, true));
        Checks.dueThrow("kind 4", Checks.ARGUMENT, () -> x.set(0, 4, 1, true));
        // 0 has rights over 1, and could take 1's rights over 0, or be given its own
        AccessSpread itself = Checks.loaded("Rppp/0t10g11t01g01r02t02r02g0");
        Checks.due("no spread brings rights over itself", itself.about(4), Checks.loaded("Rppp/0t10g11t01g01r02t02r02g0"
            + "2g12t1").about(4));
    }

    /** Four things have 48 rights; the 31st and all that follow are one too many. */
    private static void thirtyRights() {
        Checks.sentence("There are at most 30 rights (each kind of right of one thing over another one counts as one).");
        AccessSpread x = Checks.loaded("Rbbbb");
        for (int number = 0; number < 48; number++) {
            int a = number / 12;
            int k = number / 3 % 4;
            int b = (a + 1 + number % 3) % 4;
            if (number < 30) {
                Checks.due("right " + (number + 1), x.set(a, k, b, true), false);
                Checks.due("about(3)", x.about(3), number + 1);
            } else {
                Checks.dueThrow("right " + (number + 1), Checks.STATE, () -> x.set(a, k, b, true));
            }
        }
        Checks.due("about(3) of 30", x.about(3), 30);
        Checks.due("the four kinds over one thing", Checks.loaded("Rbb/0t10g10r10w1").about(3), 4);
    }

    private static void takes() {
        Checks.sentence("An awake person p can take the right k over z from y if p has the right to take over y, and y has "
            + "the right k over z, and p, y and z are three different things: p gets the right k over z.");
        AccessSpread x = Checks.loaded("Rpbb/0t11r2");
        Checks.due("take", x.take(0, 1, 2, 2), 3);
        Checks.due("what p gets", x.rights(0, 2, false), 4);
        String[] cannot = {"Rsbb/0t11r2", "Rbbb/0t11r2", "Rpbb/0g10r10w11r2", "Rpbb/1t01r2", "Rpbb/0t21r2", "Rpbb/0t11t21g21w2",
            "Rpbb/0t12r1", "Rpbb/0t1", "Rpbb/1r2", "Rpbb"};
        for (String text : cannot) {
            AccessSpread y = Checks.loaded(text);
            Checks.dueThrow(text, Checks.STATE, () -> y.take(0, 1, 2, 2));
            Checks.due(text + " in the spread", y.round(0, 2, 2), NONE);
        }
        Checks.dueThrow("y is z", Checks.ARGUMENT, () -> x.take(0, 1, 2, 1));
        Checks.dueThrow("p is z", Checks.ARGUMENT, () -> x.take(0, 1, 2, 0));
        Checks.dueThrow("p is y", Checks.ARGUMENT, () -> x.take(0, 0, 2, 1));
    }

    private static void gives() {
        Checks.sentence("An awake person p can give the right k over z to y if p has the right to give over y, and the right "
            + "k over z, and p, y and z are three different things: y gets the right k over z.");
        AccessSpread x = Checks.loaded("Rpbb/0g10w2");
        Checks.due("give", x.give(0, 1, 3, 2), 3);
        Checks.due("what y gets", x.rights(1, 2, false), 8);
        String[] cannot = {"Rsbb/0g10w2", "Rbbb/0g10w2", "Rpbb/0t10r10w10w2", "Rpbb/1g00w2", "Rpbb/0g20w2", "Rpbb/0g10t20g20r2",
            "Rpbb/0g12w0", "Rpbb/0g1", "Rpbb/0w2", "Rpbb"};
        for (String text : cannot) {
            AccessSpread y = Checks.loaded(text);
            Checks.dueThrow(text, Checks.STATE, () -> y.give(0, 1, 3, 2));
            Checks.due(text + " in the spread", y.round(1, 3, 2), NONE);
        }
        Checks.dueThrow("y is z", Checks.ARGUMENT, () -> x.give(0, 1, 3, 1));
        Checks.dueThrow("p is z", Checks.ARGUMENT, () -> x.give(0, 1, 3, 0));
        Checks.dueThrow("p is y", Checks.ARGUMENT, () -> x.give(0, 0, 3, 1));
    }

    private static void keeps() {
        Checks.sentence("Those that had the right keep it.");
        AccessSpread taken = Checks.loaded("Rpbb/0t11r2");
        taken.take(0, 1, 2, 2);
        Checks.dueSeen("take", taken, "11 -14 00 0-4 00 00- ");
        AccessSpread given = Checks.loaded("Rpbb/0g10r2");
        given.give(0, 1, 2, 2);
        Checks.dueSeen("give", given, "11 -24 00 0-4 00 00- ");
        AccessSpread spread = Checks.loaded("Rpbb/0t11r2");
        Checks.due("at the end of the spread", spread.rights(1, 2, true), 4);
    }

    private static void rounds() {
        Checks.sentence("in each round all steps that are possible by the rights that there are when it begins are done at once");
        // all are persons: rights over the next come one, then two, then four things further
        AccessSpread x = Checks.loaded("Rppppppb/0t11t22t33t44t55r6");
        int[] want = {3, 3, 2, 2, 1, 0};
        for (int i = 0; i < want.length; i++) {
            Checks.due("the right to read of " + i, x.round(i, 2, 6), want[i]);
        }
        Checks.due("the right to take over 5 of 0", x.round(0, 0, 5), 3);
        Checks.due("rounds", x.about(5), 3);
        // 0 alone is a person: one thing further in each round
        AccessSpread slow = Checks.loaded("Rpbbbbbb/0t11t22t33t44t55r6");
        for (int i = 1; i <= 5; i++) {
            Checks.due("the right to take over " + i, slow.round(0, 0, i), i - 1);
        }
        Checks.due("the right to read", slow.round(0, 2, 6), 5);
        Checks.due("rounds of one person", slow.about(5), 5);
    }

    private static void comeNoMore() {
        Checks.sentence("(rights that there are already come no more)");
        // 0 can take again in round 2 what it takes in round 1
        AccessSpread x = Checks.loaded("Rpbbb/0t11t21r32r3");
        Checks.due("the right to read", x.round(0, 2, 3), 1);
        Checks.due("its way", x.way(0, 2, 3), 1);
        Checks.due("rounds", x.about(5), 1);
        Checks.due("rights at the end", x.about(4), 6);
        Checks.due("a right that there is", Checks.loaded("Rpbb/0t10r21r2").round(0, 2, 2), 0);
        Checks.due("and no right comes", Checks.loaded("Rpbb/0t10r21r2").about(4), 3);
    }

    private static void roundsEnd() {
        Checks.sentence("It ends before the first round in which no right would come.");
        Checks.due("no things", new AccessSpread().about(5), 0);
        Checks.due("no steps", Checks.loaded("Rbbb/0t11r2").about(5), 0);
        Checks.due("steps that bring nothing", Checks.loaded("Rpbb/0t10r21r2").about(5), 0);
        Checks.due("one round", Checks.loaded("Rpbb/0t11r2").about(5), 1);
        Checks.due("two rounds", Checks.loaded(Checks.SPREADS_TO_ALL).about(5), 2);
    }

    private static void roundZero() {
        Checks.sentence("Rights that there are at first have the round 0.");
        AccessSpread x = Checks.loaded("Rpbb/0t10r21r2");
        Checks.due("one that no step brings", x.round(0, 0, 1), 0);
        Checks.due("one that could be taken too", x.round(0, 2, 2), 0);
        Checks.due("one after a take", takenFirst().round(0, 2, 2), 0);
    }

    private static AccessSpread takenFirst() {
        AccessSpread x = Checks.loaded("Rpbb/0t11r2");
        x.take(0, 1, 2, 2);
        return x;
    }

    private static void noLimitInSpreads() {
        Checks.sentence("The limit of 30 rights does not hold for a spread.");
        AccessSpread x = Checks.loaded(Checks.SPREADS_TO_ALL);
        Checks.due("rights that there are", x.about(3), 28);
        Checks.due("rights at the end", x.about(4), 168);
        for (int i = 0; i < 7; i++) {
            Checks.due("rights at the end of " + i, x.thing(i, 6), 24);
        }
        AccessSpread full = Checks.loaded("Rpppp" + Checks.THIRTY_RIGHTS);
        Checks.due("30 rights", full.about(3), 30);
        Checks.due("at the end all that four things can have", full.about(4), 48);
    }

    private static void waysTakesFirst() {
        Checks.sentence("takes are before gives");
        AccessSpread x = Checks.loaded("Rpbbbbp/0g50r35t44r3");
        Checks.due("a give by 0, a take by 5", x.way(5, 2, 3), 54);
        x.set(4, 2, 3, false);
        Checks.due("the give by 0", x.way(5, 2, 3), 105);
    }

    private static void waysLowerPerson() {
        Checks.sentence("of takes, and of gives, the one with the lower person p is first");
        AccessSpread x = Checks.loaded("Rbpbpbb/3g43r51g41r5");
        Checks.due("gives by 3 and by 1", x.way(4, 2, 5), 114);
        x.wake(1, false);
        Checks.due("the lower one sleeps", x.way(4, 2, 5), 134);
    }

    private static void waysLowerThing() {
        Checks.sentence("then the one with the lower y");
        AccessSpread x = Checks.loaded("Rbbbpbb/3t23t02r50r5");
        Checks.due("takes from 2 and from 0", x.way(3, 2, 5), 30);
        x.set(0, 2, 5, false);
        Checks.due("the take from 2", x.way(3, 2, 5), 32);
    }

    /** Each time a thing with a lower number gets in the very round what it would need for the step. */
    private static void waysOfTheRound() {
        Checks.sentence("The way of a right that comes in a round is the first one of the steps by which it comes in that round");
        Checks.due("1 gets in round 2 what it would give", Checks.loaded("Rbpbbbp/1t22t33r41g05g05t3").way(0, 2, 4), 150);
        Checks.due("1 gets in round 2 its right to give", Checks.loaded("Rbpbbbp/1t22t33g01r45g05t33r4").way(0, 2, 4), 150);
        Checks.due("1 gets in round 2 what 0 would take", Checks.loaded("Rpppbbb/0t10t21t33t44r52t4").way(0, 2, 5), 2);
        Checks.due("0 gets in round 2 its right to take", Checks.loaded("Rpbpbbbb/0t30t23t44t11r52t66r5").way(0, 2, 5), 2);
        Checks.due("a take of round 2, a give of round 1", Checks.loaded("Rpbbpb/0t11t22r43g03r4").way(0, 2, 4), 130);
    }

    private static void proofs() {
        Checks.sentence("The proof of a right is a set of steps: none for a right of the round 0; otherwise its way, and all "
            + "steps of the proofs of the two rights which that step needs (over y, and over z).");
        AccessSpread one = Checks.loaded("Rpbb/0t11r2");
        Checks.due("none for the round 0", one.proof(0, 0, 1), 0);
        Checks.due("its way alone", one.proof(0, 2, 2), 1);
        // 0 takes the right to take over 2 from 1, and 2 takes from 4 what 0 takes from it then
        AccessSpread both = Checks.loaded("Rpbpbbb/0t11t22t44r5");
        Checks.due("the steps of both rights", both.proof(0, 2, 5), 3);
        Checks.due("the right over y", Checks.loaded("Rpbbb/0t11t22r3").proof(0, 2, 3), 2);
        Checks.due("the right over z", Checks.loaded("Rpbbb/0t11r30g2").proof(2, 2, 3), 2);
        Checks.due("a step of both rights counts once", Checks.loaded("Rpbbbb/0t11t22g32r4").proof(3, 2, 4), 4);
        Checks.due("a right that there is needs no way", Checks.loaded("Rpbb/0t11r20r2").proof(0, 2, 2), 0);
    }

    private static void hears() {
        Checks.sentence("A thing a can hear of a thing b, by some rights, if a is a person and has the right to read over b, "
            + "or if b is a person and has the right to write over a (asleep or not).");
        String[] texts = {"Rpb/0r1", "Rsb/0r1", "Rbp/1w0", "Rbs/1w0", "Rpp/0r11w0"};
        for (String text : texts) {
            AccessSpread x = Checks.loaded(text);
            Checks.due(text + ": 0 hears of 1", x.thing(0, 4), 2);
            Checks.due(text + ": 1 does not of 0", x.thing(1, 4), 0);
            Checks.due(text + ": pairs", x.about(6), 1);
        }
        for (String text : new String[] {"Rbp/0r1", "Rpb/1w0", "Rpp/0t10g11t01g0", "Rbb/0r10w11r01w0"}) {
            Checks.due(text + ": nobody hears", Checks.loaded(text).about(6), 0);
        }
        Checks.due("who is written to hears, not who writes", Checks.loaded("Rpp/0w1").thing(1, 4), 1);
    }

    private static void learns() {
        Checks.sentence("It can learn of b if it can hear of b, or of a thing that can learn of b; a and b are different.");
        AccessSpread circle = Checks.loaded("Rsssssss/0r11r22r33r44r55r66r0");
        Checks.due("a circle of 7: pairs", circle.about(6), 42);
        for (int i = 0; i < 7; i++) {
            Checks.due("a circle of 7: not of itself " + i, circle.thing(i, 4), 127 & ~(1 << i));
        }
        AccessSpread up = Checks.loaded("Rsssssss/0r11r22r33r44r55r6");
        AccessSpread mixed = Checks.loaded("Rsssssss/0r66r11r55r22r44r3");
        Checks.due("a line: pairs", up.about(6), 21);
        Checks.due("a line: the first one", up.thing(0, 4), 126);
        Checks.due("a line: the last one", up.thing(6, 4), 0);
        Checks.due("another line: pairs", mixed.about(6), 21);
        Checks.due("another line: 6", mixed.thing(6, 4), 1 << 1 | 1 << 5 | 1 << 2 | 1 << 4 | 1 << 3);
        Checks.due("another line: 3", mixed.thing(3, 4), 0);
        Checks.due("two that hear of one another", Checks.loaded("Rpp/0r11r0").about(6), 2);
    }

    private static void none() {
        Checks.sentence("NONE = -9");
        Checks.due("NONE", NONE, -9);
    }
}
