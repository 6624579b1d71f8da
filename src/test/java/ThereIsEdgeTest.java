/** The sentences of the promises 6 to 11 that name a boundary. */
public final class ThereIsEdgeTest {
    private static final int NONE = AccessSpread.NONE;

    public static void main(String[] args) {
        about();
        aboutTheEnd();
        aboutRange();
        thing();
        thingRights();
        thingLearns();
        thingRange();
        rights();
        rightsAtTheEnd();
        round();
        way();
        wayNumbers();
        proof();
        Checks.end();
    }

    private static void dueAbout(String text, int... want) {
        AccessSpread x = Checks.loaded(text);
        for (int what = 0; what <= 7; what++) {
            Checks.due("about(" + what + ") of " + text, x.about(what), want[what]);
        }
    }

    private static void about() {
        Checks.sentence("0: the number of things; 1: of persons; 2: of awake ones; 3: of rights; 4: of rights at the end of "
            + "the spread; 5: of rounds of the spread;");
        dueAbout("R", 0, 0, 0, 0, 0, 0, 0, 0);
        dueAbout("Rp", 1, 1, 1, 0, 0, 0, 0, 0);
        dueAbout("Rs", 1, 1, 0, 0, 0, 0, 0, 0);
        dueAbout("Rb", 1, 0, 0, 0, 0, 0, 0, 0);
        dueAbout("Rpp/0t10g10r10w11t01g01r01w0", 2, 2, 2, 8, 8, 0, 2, 2);
        dueAbout("Rbb/0t10g10r10w11t01g01r01w0", 2, 0, 0, 8, 8, 0, 0, 0);
        dueAbout("Rsssbbbb" + Checks.THIRTY_RIGHTS, 7, 3, 0, 30, 30, 0, 12, 12);
        dueAbout("Rpppbbbb" + Checks.THIRTY_RIGHTS, 7, 3, 3, 30, 48, 1, 12, 12);
        dueAbout(Checks.SPREADS_TO_ALL, 7, 7, 7, 28, 168, 2, 42, 42);
    }

    private static void aboutTheEnd() {
        Checks.sentence("6: of pairs (a, b) of things of which a can learn of b by the rights that there are; 7: the same by "
            + "those at the end of the spread");
        dueAbout("Rpbb/0t11r2", 3, 1, 1, 2, 3, 1, 0, 1);
        dueAbout("Rpbb/0t11w2", 3, 1, 1, 2, 3, 1, 0, 1);
        dueAbout("Rsbb/0t11r2", 3, 1, 0, 2, 2, 0, 0, 0);
        dueAbout("Rpsb/0g10r2", 3, 2, 1, 2, 3, 1, 1, 2);
    }

    private static void aboutRange() {
        Checks.sentence("Throws IllegalArgumentException if what is not 0 to 7");
        AccessSpread x = new AccessSpread();
        Checks.due("0", x.about(0), 0);
        Checks.due("7", x.about(7), 0);
        Checks.dueThrow("-1", Checks.ARGUMENT, () -> x.about(-1));
        Checks.dueThrow("8", Checks.ARGUMENT, () -> x.about(8));
    }

    private static void thing() {
        Checks.sentence("0: 1 if it is a person, otherwise 0; 1: 1 if it is an awake person, otherwise 0;");
        AccessSpread x = Checks.loaded("Rpsbbbsp");
        int[] persons = {1, 1, 0, 0, 0, 1, 1};
        int[] awake = {1, 0, 0, 0, 0, 0, 1};
        for (int i = 0; i < 7; i++) {
            Checks.due("a person " + i, x.thing(i, 0), persons[i]);
            Checks.due("awake " + i, x.thing(i, 1), awake[i]);
        }
    }

    private static void thingRights() {
        Checks.sentence("2: the number of rights that it has; 3: of rights that others have over it;");
        StringBuilder all = new StringBuilder("Rbbbbbbb/");
        StringBuilder over = new StringBuilder("Rbbbbbbb/");
        for (int other = 0; other < 6; other++) {
            for (int k = 0; k <= 3; k++) {
                all.append(6).append("tgrw".charAt(k)).append(other);
                over.append(other).append("tgrw".charAt(k)).append(6);
            }
        }
        AccessSpread has = Checks.loaded(all.toString());
        AccessSpread isOwned = Checks.loaded(over.toString());
        Checks.due("all that a thing can have", has.thing(6, 2), 24);
        Checks.due("nobody has rights over it", has.thing(6, 3), 0);
        Checks.due("none of its own", isOwned.thing(6, 2), 0);
        Checks.due("all rights over it", isOwned.thing(6, 3), 24);
        for (int other = 0; other < 6; other++) {
            Checks.due("one of the others has none", has.thing(other, 2), 0);
            Checks.due("rights over one of the others", has.thing(other, 3), 4);
            Checks.due("rights of one of the others", isOwned.thing(other, 2), 4);
            Checks.due("none over one of the others", isOwned.thing(other, 3), 0);
        }
    }

    private static void thingLearns() {
        Checks.sentence("4: the things of which it can learn by the rights that there are, bit j set for the thing j; 5: the "
            + "same by those at the end of the spread; 6: the number of rights that it has at the end of the spread");
        AccessSpread x = Checks.loaded("Rpbbbbbb/0t11r61r20r3");
        Checks.due("by those that there are", x.thing(0, 4), 1 << 3);
        Checks.due("by those at the end", x.thing(0, 5), 1 << 3 | 1 << 6 | 1 << 2);
        Checks.due("rights at the end", x.thing(0, 6), 4);
        Checks.due("a box has what it had", x.thing(1, 6), 2);
        Checks.due("a thing without rights", x.thing(6, 6), 0);
        AccessSpread alone = Checks.loaded("Rp");
        for (int what = 2; what <= 6; what++) {
            Checks.due("a thing alone " + what, alone.thing(0, what), 0);
        }
        AccessSpread through = Checks.loaded("Rsbbbbss/0r66r55r1");
        Checks.due("through the last thing", through.thing(0, 4), 1 << 6 | 1 << 5 | 1 << 1);
    }

    private static void thingRange() {
        Checks.sentence("Throws IllegalArgumentException if what is not 0 to 6");
        AccessSpread x = Checks.loaded("Rp");
        Checks.due("0", x.thing(0, 0), 1);
        Checks.due("6", x.thing(0, 6), 0);
        Checks.dueThrow("-1", Checks.ARGUMENT, () -> x.thing(0, -1));
        Checks.dueThrow("7", Checks.ARGUMENT, () -> x.thing(0, 7));
    }

    private static void rights() {
        Checks.sentence("Returns the rights, bit k set for the right k.");
        for (int set = 0; set <= 15; set++) {
            AccessSpread x = Checks.loaded("Rbbbbbbb");
            for (int k = 0; k <= 3; k++) {
                x.set(0, k, 6, (set >> k & 1) != 0);
                x.set(6, k, 5, (set >> k & 1) != 0);
            }
            for (boolean end : new boolean[] {false, true}) {
                Checks.due("of 0 over 6", x.rights(0, 6, end), set);
                Checks.due("of 6 over 0", x.rights(6, 0, end), 0);
                Checks.due("of 6 over 5", x.rights(6, 5, end), set);
                Checks.due("of 5 over 6", x.rights(5, 6, end), 0);
            }
        }
    }

    private static void rightsAtTheEnd() {
        Checks.sentence("whether those at the end of the spread are asked for, or those that there are");
        AccessSpread x = Checks.loaded("Rpbb/0t11g21r20w2");
        Checks.due("that there are", x.rights(0, 2, false), 8);
        Checks.due("at the end", x.rights(0, 2, true), 8 | 2 | 4);
        AccessSpread all = Checks.loaded(Checks.SPREADS_TO_ALL);
        for (int i = 0; i < 7; i++) {
            Checks.due("all at the end", all.rights(i, (i + 3) % 7, true), 15);
        }
    }

    private static void round() {
        Checks.sentence("Returns the round in which x gets the right k over y in the spread; NONE if it does not.");
        AccessSpread x = Checks.loaded("Rpbbs/0t11r23t1");
        Checks.due("one that is there", x.round(0, 0, 1), 0);
        Checks.due("the first one that is there", x.round(1, 2, 2), 0);
        Checks.due("one that comes", x.round(0, 2, 2), 1);
        Checks.due("one of a sleeper", x.round(3, 2, 2), NONE);
        Checks.due("one that nobody has", x.round(0, 3, 2), NONE);
        Checks.due("the first right of all", Checks.loaded("Rbb").round(0, 0, 1), NONE);
        Checks.due("the last right of all", Checks.loaded("Rbbbbbbb/6w5").round(6, 3, 5), 0);
        // 5 gives 6 its right to take over 0, and 6 takes it then
        Checks.due("the last right of all in round 2", Checks.loaded("Rbbbbbpp/5g65t00w5").round(6, 3, 5), 2);
        Checks.due("the last right of all in round 1", Checks.loaded("Rbbbbbbp/6t00w5").round(6, 3, 5), 1);
    }

    private static void way() {
        Checks.sentence("NONE if the right does not come in a round from 1 on.");
        AccessSpread x = Checks.loaded("Rpbb/0t11r20w21w2");
        Checks.due("a right of the round 0 that nobody can take", x.way(0, 0, 1), NONE);
        Checks.due("a right of the round 0 that could be taken", x.way(0, 3, 2), NONE);
        Checks.due("a right that never comes", x.way(0, 1, 2), NONE);
        Checks.due("a right that comes", x.way(0, 2, 2), 1);
        Checks.due("of no rights", Checks.loaded("Rpp").way(0, 0, 1), NONE);
    }

    private static void wayNumbers() {
        Checks.sentence("Returns 100 * (0 if it is a take, 1 if it is a give) + 10 * (the person who does it) + (the thing from "
            + "which it is taken, or to which it is given)");
        Checks.due("the smallest take", Checks.loaded("Rpbb/0t11r2").way(0, 2, 2), 1);
        Checks.due("a take from 0", Checks.loaded("Rbpb/1t00r2").way(1, 2, 2), 10);
        Checks.due("the greatest take", Checks.loaded("Rbbbbbbp/6t55r0").way(6, 2, 0), 65);
        Checks.due("the smallest give", Checks.loaded("Rpbb/0g10r2").way(1, 2, 2), 101);
        Checks.due("a give to 0", Checks.loaded("Rbpb/1g01r2").way(0, 2, 2), 110);
        Checks.due("the greatest give", Checks.loaded("Rbbbbbbp/6g56r0").way(5, 2, 0), 165);
    }

    private static void proof() {
        Checks.sentence("Returns the number of steps of the proof (each counts once), 0 if the right is there; NONE if it is not "
            + "there at the end of the spread.");
        AccessSpread x = Checks.loaded("Rpbb/0t11r20w21w2");
        Checks.due("it is there", x.proof(0, 0, 1), 0);
        Checks.due("it is there, and could be taken", x.proof(0, 3, 2), 0);
        Checks.due("it is not there at the end", x.proof(0, 1, 2), NONE);
        Checks.due("one step", x.proof(0, 2, 2), 1);
        Checks.due("two steps need the same one", Checks.loaded("Rpbbbb/0t11t22g32r4").proof(3, 2, 4), 4);
        // 0 takes 1's right over 2, and so on: each step needs the one before it
        AccessSpread line = Checks.loaded("Rpbbbbbb/0t11t22t33t44t55r6");
        for (int i = 1; i <= 5; i++) {
            Checks.due("a line up to " + i, line.proof(0, 0, i), i - 1);
        }
        Checks.due("the whole line", line.proof(0, 2, 6), 5);
    }
}
