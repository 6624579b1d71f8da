/** What the tests share: answers and exceptions that are due, and objects made from texts. */
final class Checks {
    static final int INDEX = 1;
    static final int ARGUMENT = 2;
    static final int STATE = 3;
    private static int wrong = 0;

    interface Call {
        void run();
    }

    private Checks() {
    }

    static void due(String call, long got, long want) {
        if (got != want) {
            wrong++;
            System.out.println(call + " answered " + got + ", due is " + want);
        }
    }

    static void due(String call, boolean got, boolean want) {
        due(call, got ? 1 : 0, want ? 1 : 0);
    }

    static void dueThrow(String call, int want, Call run) {
        due(call + " throws (1 index, 2 argument, 3 state, 0 nothing)", thrownBy(run), want);
    }

    private static int thrownBy(Call run) {
        try {
            run.run();
        } catch (RuntimeException e) {
            if (e.getClass() == IndexOutOfBoundsException.class) {
                return INDEX;
            }
            if (e.getClass() == IllegalArgumentException.class) {
                return ARGUMENT;
            }
            return e.getClass() == IllegalStateException.class ? STATE : -1;
        }
        return 0;
    }

    static void write(AccessSpread access, String text) {
        access.clearText();
        for (int i = 0; i < text.length(); i++) {
            access.append(text.charAt(i));
        }
    }

    static AccessSpread loaded(String text) {
        AccessSpread access = new AccessSpread();
        write(access, text);
        access.load();
        return access;
    }

    /** All that can be seen of the state, in one text. */
    static String seen(AccessSpread access) {
        StringBuilder all = new StringBuilder();
        int n = access.about(0);
        for (int x = 0; x < n; x++) {
            all.append(access.thing(x, 0)).append(access.thing(x, 1)).append(' ');
            for (int y = 0; y < n; y++) {
                all.append(x == y ? "-" : Integer.toHexString(access.rights(x, y, false)));
            }
            all.append(' ');
        }
        return all.toString();
    }

    static void dueSeen(String call, AccessSpread access, String want) {
        if (!seen(access).equals(want)) {
            wrong++;
            System.out.println(call + " left " + seen(access) + ", due is " + want);
        }
    }

    /** Ends a test's main method. */
    static void end() {
        if (wrong != 0) {
            System.out.println(wrong + " answers are not as due");
            System.exit(1);
        }
    }
}
