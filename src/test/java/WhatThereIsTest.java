/** Promises 6 to 11: about, thing, rights, round, way, proof. */
public final class WhatThereIsTest {
    private static final int NONE = AccessSpread.NONE;
    /** 0 takes over 1, 1 over 2, 2 (a box) has read over 3; 4 sleeps and gives to 0; 3 writes over 4. */
    private static final String CHAIN = "Rppbps/0t11t22r34g03w4";

    public static void main(String[] args) {
        about();
        learning();
        thing();
        rights();
        roundsAndWays();
        waysInOrder();
        proofs();
        wrongRights();
        Checks.end();
    }

    private static void about() {
        AccessSpread x = Checks.loaded(CHAIN);
        // round 1: 0 takes take over 2 from 1; 1 takes read over 3 from 2; round 2: 0 takes read over 3
        int[] want = {5, 4, 3, 5, 8, 2, 1, 3};
        for (int what = 0; what < want.length; what++) {
            Checks.due("about(" + what + ")", x.about(what), want[what]);
        }
        Checks.dueThrow("about(-1)", Checks.ARGUMENT, () -> x.about(-1));
        Checks.dueThrow("about(8)", Checks.ARGUMENT, () -> x.about(8));
        x.wake(0, false);
        x.wake(1, false);
        Checks.due("nobody who can: rights", x.about(4), 5);
        Checks.due("nobody who can: rounds", x.about(5), 0);
        AccessSpread most = Checks.loaded("Rppppppp/0t10t20t30t40t50t60g10g20g30g40g50g6"
            + "1t01t21t31t41t51t61g01g21g31g41g51g62r02w02r12w13r0");
        Checks.due("a spread of more than 30 rights", most.about(4) > 30, true);
    }

    private static void learning() {
        // 0 reads 1; 2 (asleep) writes over 1; 3 is a box that reads 0 and writes over 2: neither counts
        AccessSpread x = Checks.loaded("Rppsb/0r12w13r03w2");
        Checks.due("learns: about(6)", x.about(6), 3);
        Checks.due("0 learns", x.thing(0, 4), 1 << 1 | 1 << 2);
        Checks.due("1 learns", x.thing(1, 4), 1 << 2);
        Checks.due("2 learns", x.thing(2, 4), 0);
        Checks.due("3 learns", x.thing(3, 4), 0);
        AccessSpread circle = Checks.loaded("Rsss/0r11r22r0");
        Checks.due("a circle: about(6)", circle.about(6), 6);
        Checks.due("a circle: 0 learns not of itself", circle.thing(0, 4), 6);
        AccessSpread line = Checks.loaded("Rppppppp/6r55r44r33r22r11r0");
        Checks.due("a line downwards: about(6)", line.about(6), 21);
        Checks.due("a line downwards: 6 learns", line.thing(6, 4), 63);
        AccessSpread box = Checks.loaded("Rbpb/1w01r2");
        Checks.due("a box learns of a box", box.thing(0, 4), 1 << 1 | 1 << 2);
    }

    private static void thing() {
        AccessSpread x = Checks.loaded(CHAIN);
        int[][] want = {
            {1, 1, 1, 1, 0, 1 << 3, 3},
            {1, 1, 1, 1, 0, 1 << 3, 2},
            {0, 0, 1, 1, 0, 0, 1},
            {1, 1, 1, 1, 0, 0, 1},
            {1, 0, 1, 1, 1 << 3, 1 << 3, 1},
        };
        for (int i = 0; i < want.length; i++) {
            for (int what = 0; what <= 6; what++) {
                Checks.due("thing(" + i + ", " + what + ")", x.thing(i, what), want[i][what]);
            }
        }
        AccessSpread over = Checks.loaded("Rbbb/0t20w21g21r20t1");
        Checks.due("rights over 2", over.thing(2, 3), 4);
        Checks.due("rights of 0", over.thing(0, 2), 3);
        Checks.dueThrow("thing(-1, 0)", Checks.INDEX, () -> x.thing(-1, 0));
        Checks.dueThrow("thing(5, 0)", Checks.INDEX, () -> x.thing(5, 0));
        Checks.dueThrow("thing(5, 7)", Checks.INDEX, () -> x.thing(5, 7));
        Checks.dueThrow("thing(0, -1)", Checks.ARGUMENT, () -> x.thing(0, -1));
        Checks.dueThrow("thing(0, 7)", Checks.ARGUMENT, () -> x.thing(0, 7));
    }

    private static void rights() {
        AccessSpread x = Checks.loaded(CHAIN);
        Checks.due("rights(0, 3, false)", x.rights(0, 3, false), 0);
        Checks.due("rights(0, 3, true)", x.rights(0, 3, true), 4);
        Checks.due("rights(3, 4, false)", x.rights(3, 4, false), 8);
        AccessSpread all = Checks.loaded("Rbb/0t10g10r10w11g0");
        Checks.due("rights all", all.rights(0, 1, false), 15);
        Checks.due("rights at the end", all.rights(1, 0, true), 2);
        Checks.dueThrow("rights(-1, 0)", Checks.INDEX, () -> x.rights(-1, 0, true));
        Checks.dueThrow("rights(0, 5)", Checks.INDEX, () -> x.rights(0, 5, false));
        Checks.dueThrow("rights(5, 5)", Checks.INDEX, () -> x.rights(5, 5, false));
        Checks.dueThrow("rights(2, 2)", Checks.ARGUMENT, () -> x.rights(2, 2, true));
    }

    private static void roundsAndWays() {
        AccessSpread x = Checks.loaded(CHAIN);
        Checks.due("round of a right that there is", x.round(0, 0, 1), 0);
        Checks.due("round 1", x.round(0, 0, 2), 1);
        Checks.due("round 1 too", x.round(1, 2, 3), 1);
        Checks.due("round 2", x.round(0, 2, 3), 2);
        Checks.due("round of none", x.round(0, 3, 4), NONE);
        Checks.due("the sleeper gives nothing", x.round(0, 1, 4), NONE);
        Checks.due("way of a right that there is", x.way(0, 0, 1), NONE);
        Checks.due("way of a take", x.way(0, 0, 2), 1);
        // in round 2, 0 takes it from 1; that it could take it from 2 too, is later
        Checks.due("way of the lower y", x.way(0, 2, 3), 1);
        Checks.due("way of none", x.way(0, 3, 4), NONE);
        AccessSpread gift = Checks.loaded("Rbpb/1g01w2");
        Checks.due("way of a give", gift.way(0, 3, 2), 110);
        Checks.due("round of a give", gift.round(0, 3, 2), 1);
        AccessSpread self = Checks.loaded("Rpp/0t11t00g11g00r1");
        Checks.due("two things do no steps", self.about(4), 5);
        AccessSpread own = Checks.loaded("Rppb/0t11r01r2");
        Checks.due("nobody takes a right over itself", own.about(4), 4);
        Checks.due("a third one's it does", own.round(0, 2, 2), 1);
        AccessSpread back = Checks.loaded("Rpbb/0g10r10r2");
        Checks.due("nobody is given a right over itself", back.about(4), 4);
    }

    private static void waysInOrder() {
        // 3 can take read over 4 from 1 and 2, and be given it by 0 and 5: the take from 1 is first
        AccessSpread x = Checks.loaded("Rpbbpbp/3t13t21r42r40g30r45g35r4");
        Checks.due("a take before gives, the lower y", x.way(3, 2, 4), 31);
        x.set(1, 2, 4, false);
        Checks.due("the other y", x.way(3, 2, 4), 32);
        x.set(2, 2, 4, false);
        Checks.due("the lower giver", x.way(3, 2, 4), 103);
        x.wake(0, false);
        Checks.due("the giver who is awake", x.way(3, 2, 4), 153);
        x.wake(3, false);
        Checks.due("asleep it is given too", x.way(3, 2, 4), 153);
        // the take is possible from round 2 on, but the give is of round 1
        AccessSpread sooner = Checks.loaded("Rppbbp/0t11t22r34g04r3");
        Checks.due("the round counts first", sooner.way(0, 2, 3), 140);
        Checks.due("the round", sooner.round(0, 2, 3), 1);
    }

    private static void proofs() {
        AccessSpread x = Checks.loaded(CHAIN);
        Checks.due("proof of a right that there is", x.proof(0, 0, 1), 0);
        Checks.due("proof of one step", x.proof(0, 0, 2), 1);
        Checks.due("proof of two steps", x.proof(0, 2, 3), 2);
        Checks.due("proof of none", x.proof(0, 3, 4), NONE);
        // 0 takes take over 2 from 1, by it take over 4 from 2, and by that read over 5 from 4
        AccessSpread three = Checks.loaded("Rpbbbpb/0t11t22t32t43t44r5");
        Checks.due("take over 2", three.proof(0, 0, 2), 1);
        Checks.due("take over 4", three.proof(0, 0, 4), 2);
        Checks.due("read over 5", three.proof(0, 2, 5), 3);
        // 0 takes give over 3 and read over 4 from 2, both by the one step that brings take over 2
        AccessSpread once = Checks.loaded("Rpbbbb/0t11t22g32r4");
        Checks.due("give over 3", once.proof(0, 1, 3), 2);
        Checks.due("a shared step counts once", once.proof(3, 2, 4), 4);
        Checks.due("its round", once.round(3, 2, 4), 3);
        Checks.due("its way", once.way(3, 2, 4), 103);
    }

    private static void wrongRights() {
        AccessSpread x = Checks.loaded(CHAIN);
        int[][] calls = {
            {-1, 0, 0, 1}, {0, 0, 5, 1}, {5, 0, 0, 1}, {0, 0, -1, 1}, {5, 9, 5, 1}, {0, -1, 7, 1}, {9, 4, 0, 1},
            {0, 0, 0, 2}, {4, 3, 4, 2}, {0, -1, 1, 2}, {0, 4, 1, 2}, {1, 4, 1, 2},
        };
        for (int[] c : calls) {
            String with = "(" + c[0] + ", " + c[1] + ", " + c[2] + ")";
            Checks.dueThrow("round" + with, c[3], () -> x.round(c[0], c[1], c[2]));
            Checks.dueThrow("way" + with, c[3], () -> x.way(c[0], c[1], c[2]));
            Checks.dueThrow("proof" + with, c[3], () -> x.proof(c[0], c[1], c[2]));
            Checks.dueThrow("set" + with, c[3], () -> x.set(c[0], c[1], c[2], true));
            Checks.dueThrow("needed" + with, c[3], () -> x.needed(c[0], c[1], c[2]));
            Checks.dueThrow("cut" + with, c[3], () -> x.cut(c[0], c[1], c[2]));
            Checks.dueThrow("cutAt" + with, c[3], () -> x.cutAt(c[0], c[1], c[2], 0));
        }
        Checks.dueThrow("undo() after calls that threw", Checks.STATE, x::undo);
    }
}
