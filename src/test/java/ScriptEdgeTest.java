import java.math.BigInteger;
import java.util.Arrays;

/** The sentences of the promises 25 and 26 that name a boundary. */
public final class ScriptEdgeTest {
    private static final int NONE = AccessSpread.NONE;
    private static final long BASE = 100000;
    private static final int LONG = 64;

    public static void main(String[] args) {
        numberOfCommands();
        digits();
        zerosBefore();
        firstThatFails();
        stepsInScripts();
        removesInScripts();
        onACopy();
        everyGroup();
        failAsTheMethods();
        noSuchThings();
        zerosAndOnes();
        zeros();
        decimal();
        tries();
        seeds();
        overflow();
        seedOnce();
        fewThings();
        thingBesideTheTwo();
        notThereYet();
        fewerThanThirty();
        triesOnACopy();
        Checks.end();
    }

    private static void numberOfCommands() {
        Checks.sentence("number of commands, 1 to 3");
        AccessSpread x = Checks.loaded("Rb");
        Checks.due("1", x.runScript(1, 80000), NONE);
        Checks.due("2", x.runScript(2, 80000 * BASE + 80000), NONE);
        Checks.due("3", x.runScript(3, (80000 * BASE + 80000) * BASE + 80000), NONE);
        for (int n : new int[] {0, 4, -1, -9, Integer.MIN_VALUE, Integer.MAX_VALUE}) {
            Checks.dueThrow("n = " + n, Checks.ARGUMENT, () -> x.runScript(n, 80000));
            Checks.dueThrow("n = " + n + " without digits", Checks.ARGUMENT, () -> x.runScript(n, 0));
        }
    }

    private static void digits() {
        Checks.sentence("the commands, a number of at most 5 * n digits (0 or more)");
        AccessSpread x = Checks.loaded("Rb");
        long most = 1;
        for (int n = 1; n <= 3; n++) {
            int commands = n;
            most *= BASE;
            long tooMany = most;
            Checks.due("0 for " + n, x.runScript(n, 0), 0);
            Checks.due("1 for " + n, x.runScript(n, 1), 0);
            Checks.due("the most digits for " + n, x.runScript(n, most - 1), 0);
            Checks.dueThrow("a digit more for " + n, Checks.ARGUMENT, () -> x.runScript(commands, tooMany));
            Checks.dueThrow("the most of a long for " + n, Checks.ARGUMENT, () -> x.runScript(commands, Long.MAX_VALUE));
            Checks.dueThrow("the least of a long for " + n, Checks.ARGUMENT, () -> x.runScript(commands, Long.MIN_VALUE));
            Checks.dueThrow("-1 for " + n, Checks.ARGUMENT, () -> x.runScript(commands, -1));
            Checks.dueThrow("-80000 for " + n, Checks.ARGUMENT, () -> x.runScript(commands, -80000));
        }
    }

    private static void zerosBefore() {
        Checks.sentence("(with zeros before it, if it has fewer digits)");
        AccessSpread x = Checks.loaded("Rb");
        Checks.due("the first of two is 00000", x.runScript(2, 80000), 0);
        Checks.due("the first of three is 00000", x.runScript(3, 80000 * BASE + 80000), 0);
        Checks.due("a group of four digits", x.runScript(1, 8000), 0);
        Checks.due("the first group has four digits", x.runScript(2, 8000 * BASE + 80000), 0);
    }

    private static void firstThatFails() {
        Checks.sentence("Returns the index, from 0, of the first command that fails; NONE if all succeed.");
        AccessSpread x = Checks.loaded("Rb");
        for (int fails = 0; fails < 8; fails++) {
            long script = 0;
            for (int i = 0; i < 3; i++) {
                script = script * BASE + ((fails >> i & 1) != 0 ? 10000 : 80000);
            }
            int want = fails == 0 ? NONE : Integer.numberOfTrailingZeros(fails);
            Checks.due("three commands, " + fails, x.runScript(3, script), want);
        }
    }

    private static void stepsInScripts() {
        Checks.sentence("1 p y k z: take(p, y, k, z). 2 p y k z: give(p, y, k, z).");
        AccessSpread x = Checks.loaded("Rpbb/0t10g21r20w1");
        Checks.due("before the take", x.runScript(1, 60220), 0);
        Checks.due("after the take", x.runScript(2, 10122 * BASE + 60220), NONE);
        Checks.due("after the take it stays too", x.runScript(2, 10122 * BASE + 61220), NONE);
        Checks.due("before the give", x.runScript(1, 62310), 0);
        Checks.due("after the give", x.runScript(2, 20231 * BASE + 62310), NONE);
        Checks.due("after the give it stays too", x.runScript(2, 20231 * BASE + 60310), NONE);
        Checks.due("a take, a give, and rights at the end", x.runScript(3, (10122 * BASE + 20231) * BASE + 80006), 2);
        Checks.due("a take, a give, and one more", x.runScript(3, (10122 * BASE + 20231) * BASE + 80007), NONE);
    }

    private static void removesInScripts() {
        Checks.sentence("5 i 0 0 0: removeThing(i).");
        AccessSpread x = Checks.loaded("Rpbb/0t10g21r20w1");
        Checks.due("0 has the right to give over 2", x.runScript(1, 60120), NONE);
        Checks.due("without 1 over 1", x.runScript(2, 51000 * BASE + 60110), NONE);
        Checks.due("without 1 over no 2", x.runScript(2, 51000 * BASE + 60120), 1);
        Checks.due("all go", x.runScript(3, (52000 * BASE + 51000) * BASE + 50000), NONE);
        Checks.due("those behind come first", x.runScript(3, (50000 * BASE + 50000) * BASE + 50000), NONE);
        Checks.due("no more than all", x.runScript(3, (50000 * BASE + 50000) * BASE + 51000), 2);
    }

    private static void onACopy() {
        Checks.sentence("Runs a script on a copy of the state.");
        AccessSpread x = Checks.loaded("Rpsb/0t2");
        Checks.due("three changes", x.runScript(3, (50000 * BASE + 40100) * BASE + 30011), NONE);
        Checks.dueSeen("a script", x, "11 -01 10 0-0 00 00- ");
        Checks.dueThrow("undo()", Checks.STATE, x::undo);
        Checks.due("a script sees what the first command changed", x.runScript(2, 41100 * BASE + 51000), NONE);
        Checks.due("the next one does not", x.runScript(1, 60020), NONE);
        Checks.due("a script after one that fails", x.runScript(2, 50000 * BASE), 1);
        Checks.due("the next one again", x.runScript(1, 60020), NONE);
    }

    /** All that five digits can be, for two states: the answers of the model. */
    private static void everyGroup() {
        Checks.sentence("and so does any other group (also one with another digit where a 0 is written).");
        for (String text : new String[] {"Rpsbp/0t20g12r33g23r12w01r0", "Rpppbppb" + Checks.THIRTY_RIGHTS}) {
            Model.Seen state = (Model.Seen) Model.read(text);
            AccessSpread x = Checks.loaded(text);
            for (int group = 0; group < BASE; group++) {
                if (group % 300 == 0) {
                    x = Checks.loaded(text);
                }
                Checks.due("group " + group + " of " + text, x.runScript(1, group), Model.runScript(state, 1, group));
            }
        }
    }

    private static void dueCommand(String text, long group, boolean succeeds) {
        Checks.due("command " + group + " of " + text, Checks.loaded(text).runScript(1, group), succeeds ? NONE : 0);
    }

    private static void failAsTheMethods() {
        Checks.sentence("The commands 1 to 5 fail if the method would throw an exception");
        String full = "Rpppp" + Checks.THIRTY_RIGHTS;
        dueCommand(full, 12021, false);
        dueCommand(full, 12011, true);
        dueCommand(full, 20221, false);
        dueCommand(full, 20211, true);
        dueCommand(full, 33321, false);
        dueCommand(full, 33320, true);
        dueCommand(full, 30011, true);
        dueCommand(full, 30010, true);
        dueCommand("Rpb", 40000, true);
        dueCommand("Rpb", 40100, true);
        dueCommand("Rpb", 41000, false);
        dueCommand("Rpb", 41100, false);
        dueCommand("Rpb", 42100, false);
        dueCommand("Rpb", 51000, true);
        dueCommand("Rpb", 52000, false);
        dueCommand("Rpbb/0t11r2", 10122, true);
        dueCommand("Rsbb/0t11r2", 10122, false);
        dueCommand("Rbbb/0g10r2", 20122, false);
    }

    private static void noSuchThings() {
        Checks.sentence("commands with things that do not exist, or are the same, or with rights above 3 fail");
        String text = "Rpbb/0t11r20g10r22r10r1";
        long[] well = {10122, 20122, 30011, 60010, 70010, 90200, 40100, 52000};
        for (long group : well) {
            dueCommand(text, group, true);
        }
        long[] badly = {13122, 10322, 10123, 10022, 10120, 10121, 10142, 10192, 23122, 20322, 20123, 20022, 20120, 20121, 20142,
            33011, 30031, 30001, 30041, 30091, 63010, 60030, 60000, 60040, 73010, 70030, 70000, 70040, 93000, 90300, 90000, 91100,
            43100, 53000, 59000};
        for (long group : badly) {
            dueCommand(text, group, false);
        }
    }

    private static void zerosAndOnes() {
        Checks.sentence("4 i w 0 0: wake(i, w is 1) (w is 0 or 1).");
        AccessSpread awake = Checks.loaded("Rpbb/0t11r2");
        Checks.due("a take", awake.runScript(1, 10122), NONE);
        Checks.due("w is 0: asleep then", awake.runScript(2, 40000 * BASE + 10122), 1);
        Checks.due("w is 1: awake still", awake.runScript(2, 40100 * BASE + 10122), NONE);
        AccessSpread asleep = Checks.loaded("Rsbb/0t11r2");
        Checks.due("no take", asleep.runScript(1, 10122), 0);
        Checks.due("w is 0: asleep still", asleep.runScript(2, 40000 * BASE + 10122), 1);
        Checks.due("w is 1: awake then", asleep.runScript(2, 40100 * BASE + 10122), NONE);
        Checks.due("i is 0: gone then", awake.runScript(2, 30010 * BASE + 60010), 1);
        Checks.due("i is 1: there then", awake.runScript(2, 32301 * BASE + 62300), NONE);
        for (int digit = 2; digit <= 9; digit++) {
            dueCommand("Rpsb/0t21r2", 40000 + 100 * digit, false);
            dueCommand("Rpsb/0t21r2", 30020 + digit, false);
        }
    }

    private static void zeros() {
        Checks.sentence("(also one with another digit where a 0 is written)");
        String text = "Rpbb/0t11r20r1";
        for (int digit = 1; digit <= 9; digit++) {
            for (long group : new long[] {40100, 50000}) {
                dueCommand(text, group + digit, false);
                dueCommand(text, group + 10 * digit, false);
            }
            dueCommand(text, 50000 + 100 * digit, false);
            dueCommand(text, 60010 + digit, false);
            dueCommand(text, 70010 + digit, false);
            dueCommand(text, 80999 + 1000 * digit, false);
            dueCommand(text, 90100 + digit, false);
            dueCommand(text, 90100 + 10 * digit, false);
            dueCommand(text, 30010 + digit, digit == 1);
            dueCommand(text, 40000 + 100 * digit, digit == 1);
        }
        dueCommand(text, 90100, true);
    }

    private static void decimal() {
        Checks.sentence("xyz is a decimal number.");
        dueCommand(Checks.SPREADS_TO_ALL, 80168, true);
        dueCommand(Checks.SPREADS_TO_ALL, 80167, false);
        dueCommand(Checks.SPREADS_TO_ALL, 80099, false);
        dueCommand(Checks.SPREADS_TO_ALL, 80199, true);
        dueCommand(Checks.SPREADS_TO_ALL, 80200, true);
        dueCommand("Rbb/0t1", 80001, true);
        dueCommand("Rbb/0t1", 80000, false);
        dueCommand("R", 80000, true);
        dueCommand("Rbbbb/0t10t20t31t01t21t32t02t12t33t03t1", 80010, false);
        dueCommand("Rbbbb/0t10t20t31t01t21t32t02t12t33t03t1", 80011, true);
    }

    private static void tries() {
        Checks.sentence("number of tries, 1 to 99");
        AccessSpread x = Checks.loaded("Rppp");
        Checks.due("1", x.simulate(0, 1), 0);
        Checks.due("99", x.simulate(0, 99), 0);
        for (int m : new int[] {0, 100, -1, -9, Integer.MIN_VALUE, Integer.MAX_VALUE}) {
            Checks.dueThrow("m = " + m, Checks.ARGUMENT, () -> x.simulate(0, m));
        }
    }

    private static void seeds() {
        Checks.sentence("any long");
        AccessSpread x = Checks.loaded("Rppb/0t1");
        for (long seed : new long[] {0, 1, -1, Long.MIN_VALUE, Long.MAX_VALUE}) {
            Checks.due("seed " + seed, x.simulate(seed, 99), 1);
        }
    }

    /** The long x of the try, counted from 1, without signs. */
    private static BigInteger xOf(long seed, int tries) {
        BigInteger x = BigInteger.valueOf(seed).mod(BigInteger.ONE.shiftLeft(LONG));
        for (int i = 0; i < tries; i++) {
            x = x.multiply(new BigInteger("6364136223846793005")).add(new BigInteger("1442695040888963407"));
            x = x.mod(BigInteger.ONE.shiftLeft(LONG));
        }
        return x;
    }

    /** What the try would do in a state of n things: 1 if it gives, p, y, k, z. */
    private static int[] stepOf(BigInteger x, int n) {
        int r = x.shiftRight(33).intValueExact();
        int p = r / 2 % n;
        int y = (p + 1 + r / 16 % (n - 1)) % n;
        int left = r / 128 % (n - 2);
        int z = 0;
        while (z == p || z == y || left > 0) {
            left -= z == p || z == y ? 0 : 1;
            z++;
        }
        return new int[] {r % 2, p, y, r / 1024 % 4, z};
    }

    /** n sleepers, and but for the step's person all rights that it needs. */
    private static AccessSpread readyFor(int[] step, int n) {
        AccessSpread x = Checks.loaded("R" + "s".repeat(n));
        x.wake(step[1], true);
        x.set(step[1], step[0], step[2], true);
        x.set(step[0] == 1 ? step[1] : step[2], step[3], step[4], true);
        return x;
    }

    private static void overflow() {
        Checks.sentence("For each try x is first replaced by x * 6364136223846793005L + 1442695040888963407L (with long "
            + "overflow), and r = (int) (x >>> 33) is computed.");
        long[] seeds = {0, 1, -1, 2, 1000003, Long.MIN_VALUE, Long.MAX_VALUE, Long.MIN_VALUE + 1, 6364136223846793005L};
        for (int which = 0; which < 20 * seeds.length; which++) {
            long seed = seeds[which % seeds.length] + which / seeds.length * 7919L;
            for (int n = 3; n <= 7; n++) {
                int[] step = stepOf(xOf(seed, 1), n);
                String of = "seed " + seed + " of " + n + " things: ";
                AccessSpread x = readyFor(step, n);
                Checks.due(of + "it can be", x.simulate(seed, 1), 103);
                x.wake(step[1], false);
                Checks.due(of + "its person sleeps", x.simulate(seed, 1), 2);
                x.undo();
                x.set(step[1], step[0], step[2], false);
                Checks.due(of + "without the right over y", x.simulate(seed, 1), 1);
                x.undo();
                x.set(step[0] == 1 ? step[1] : step[2], step[3], step[4], false);
                Checks.due(of + "without the right over z", x.simulate(seed, 1), 1);
            }
        }
    }

    private static void seedOnce() {
        Checks.sentence("A long x starts as the seed (once).");
        for (int n = 3; n <= 7; n++) {
            for (int tries = 2; tries <= 99; tries++) {
                int[] step = stepOf(xOf(n, tries), n);
                boolean couldGiveThatRight = step[0] == 1 && step[3] == 1;
                if (!couldGiveThatRight && isNew(step, n, tries)) {
                    AccessSpread x = readyFor(step, n);
                    Checks.due("before the try " + tries, x.simulate(n, tries - 1), 2);
                    Checks.due("with the try " + tries, x.simulate(n, tries), 103);
                }
            }
        }
    }

    private static boolean isNew(int[] step, int n, int tries) {
        for (int i = 1; i < tries; i++) {
            if (Arrays.equals(step, stepOf(xOf(n, i), n))) {
                return false;
            }
        }
        return true;
    }

    private static void fewThings() {
        Checks.sentence("N is the number of things; if it is below 3, nothing else happens.");
        Checks.due("no things", new AccessSpread().simulate(5, 99), 0);
        Checks.due("one thing", Checks.loaded("Rp").simulate(5, 99), 0);
        Checks.due("two things", Checks.loaded("Rpp/0t11t00g11g00r11r00w11w0").simulate(5, 99), 8);
        Checks.due("three things", Checks.loaded("Rppp/0t10g11t21t0").simulate(5, 99) > 100, true);
    }

    /** Seeds are tried until each thing has been z with each two others as p and y. */
    private static void thingBesideTheTwo() {
        Checks.sentence("z is the thing r / 128 % (N - 2) of those that are neither p nor y, ascending, from 0 on");
        for (int n = 3; n <= 7; n++) {
            boolean[] isSeen = new boolean[n * n * n];
            int count = 0;
            for (long seed = 0; count < n * (n - 1) * (n - 2) && seed < 100000; seed++) {
                int[] step = stepOf(xOf(seed, 1), n);
                int which = (step[1] * n + step[2]) * n + step[4];
                if (!isSeen[which]) {
                    isSeen[which] = true;
                    count++;
                    String of = step[1] + ", " + step[2] + ", " + step[4] + " of " + n;
                    Checks.due(of, readyFor(step, n).simulate(seed, 1), 103);
                }
            }
            Checks.due("all threes of " + n, count, n * (n - 1) * (n - 2));
        }
    }

    private static void notThereYet() {
        Checks.sentence("and the right is not there yet");
        for (long seed = 0; seed < 40; seed++) {
            int[] step = stepOf(xOf(seed, 1), 4);
            AccessSpread x = readyFor(step, 4);
            x.set(step[0] == 1 ? step[2] : step[1], step[3], step[4], true);
            Checks.due("a right that is there, seed " + seed, x.simulate(seed, 1), 3);
        }
    }

    private static void fewerThanThirty() {
        Checks.sentence("and there are fewer than 30.");
        AccessSpread x = Checks.loaded("Rpppp" + Checks.THIRTY_RIGHTS);
        for (long seed = 0; seed < 20; seed++) {
            Checks.due("with 30, seed " + seed, x.simulate(seed, 99), 30);
        }
        // what goes here comes again only as one of the many others that four persons can do
        x.set(2, 1, 1, false);
        for (long seed = 0; seed < 20; seed++) {
            Checks.due("with 29, seed " + seed, x.simulate(seed, 99), 130);
        }
        x.set(2, 0, 1, false);
        Checks.due("with 28", x.simulate(3, 99), 230);
    }

    private static void triesOnACopy() {
        Checks.sentence("Simulates m tries on a copy of the state.");
        AccessSpread x = Checks.loaded("Rppp/0t10g11t21t0");
        int once = x.simulate(5, 99);
        Checks.due("once more", x.simulate(5, 99), once);
        Checks.due("rights", x.about(3), 4);
        Checks.dueThrow("undo()", Checks.STATE, x::undo);
    }
}
