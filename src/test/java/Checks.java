/** What the tests share: answers and exceptions that are due, and objects made from texts. */
final class Checks {
    static final int INDEX = 1;
    static final int ARGUMENT = 2;
    static final int STATE = 3;
    /** All rights of 0, 1 and 2 over one another and over 3, but for two of 2: with four things or more before it, 30 rights. */
    static final String THIRTY_RIGHTS = "/0t10g10r10w10t20g20r20w20t30g30r30w31t01g01r01w01t21g21r21w21t31g31r31w3"
        + "2t02g02r02w02t12g1";
    /** 28 rights of seven persons who are awake: at the end of the spread there are all 168. */
    static final String SPREADS_TO_ALL = "Rppppppp/0t10t20t30t40t50t60g10g20g30g40g50g60r10r20r30r40r50r6"
        + "0w10w20w30w40w50w61t01g01r01w0";
    private static String sentence = "";
    private static int wrong = 0;

    interface Call {
        void run();
    }

    private Checks() {
    }

    /** Names the sentence of the document that the calls from here on look at. */
    static void sentence(String words) {
        sentence = "\"" + words + "\": ";
    }

    static void due(String call, long got, long want) {
        if (got != want) {
            wrong++;
            System.out.println(sentence + call + " answered " + got + ", due is " + want);
        }
    }

    static void due(String call, boolean got, boolean want) {
        due(call, got ? 1 : 0, want ? 1 : 0);
    }

    static void dueThrow(String call, int want, Call run) {
        due(call + " throws (1 index, 2 argument, 3 state, 0 nothing)", thrownBy(run), want);
    }

    static int thrownBy(Call run) {
        try {
            run.run();
        } catch (RuntimeException e) {
            if (e.getClass() == IndexOutOfBoundsException.class) {
                return INDEX;
            }
            if (e.getClass() == IllegalArgumentException.class) {
                return ARGUMENT;
            }
            return e.getClass() == IllegalStateException.class ? STATE : -1;
        }
        return 0;
    }

    static void write(AccessSpread access, String text) {
        access.clearText();
        for (int i = 0; i < text.length(); i++) {
            access.append(text.charAt(i));
        }
    }

    /** The script changes nothing, but an object that took its own notes of a script for the state would be found out. */
    static AccessSpread loaded(String text) {
        AccessSpread access = new AccessSpread();
        write(access, text);
        access.load();
        access.runScript(3, 500005000050000L);
        return access;
    }

    /** All that can be seen of the state, in one text. */
    static String seen(AccessSpread access) {
        StringBuilder all = new StringBuilder();
        int n = access.about(0);
        for (int x = 0; x < n; x++) {
            all.append(access.thing(x, 0)).append(access.thing(x, 1)).append(' ');
            for (int y = 0; y < n; y++) {
                all.append(x == y ? "-" : Integer.toHexString(access.rights(x, y, false)));
            }
            all.append(' ');
        }
        return all.toString();
    }

    static void dueSeen(String call, AccessSpread access, String want) {
        dueText(call + " left", seen(access), want);
    }

    static void dueText(String call, String got, String want) {
        if (!got.equals(want)) {
            wrong++;
            System.out.println(sentence + call + " " + got + ", due is " + want);
        }
    }

    /** All that can be seen of the whole object, in one text; the object is used up by it. */
    static String drained(AccessSpread access) {
        StringBuilder all = new StringBuilder(seen(access));
        all.append("| text ").append(access.errorPosition());
        while (thrownBy(access::undo) == 0) {
            all.append("| remembered ").append(seen(access));
        }
        for (int slot = 0; slot <= 1; slot++) {
            int which = slot;
            boolean isThere = thrownBy(() -> access.restore(which)) == 0;
            all.append("| slot ").append(isThere ? seen(access) : "none");
        }
        all.append("| load ").append(thrownBy(access::load)).append(' ').append(seen(access));
        return all.append("| length ").append(access.clearText()).toString();
    }

    /** Ends a test's main method. */
    static void end() {
        if (wrong != 0) {
            System.out.println(wrong + " answers are not as due");
            System.exit(1);
        }
    }
}
