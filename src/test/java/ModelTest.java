import java.util.Arrays;

/** All promises: long runs of chosen calls, each answer compared with the model's. */
public final class ModelTest {
    private static final int RUNS = 150;
    private static final int CALLS = 170;
    private static final int INDEX = -1001;
    private static final int ARGUMENT = -1002;
    private static final int STATE = -1003;

    private long chance;
    private final AccessSpread access = new AccessSpread();
    private final Model model = new Model();
    private int p;
    private int y;
    private int k;
    private int z;
    private int what;
    private boolean is;

    private ModelTest(long seed) {
        chance = seed;
    }

    public static void main(String[] args) {
        int runs = args.length > 0 ? Integer.parseInt(args[0]) : RUNS;
        for (int run = 1; run <= runs; run++) {
            new ModelTest(run * 1000003L).run(run);
        }
        Checks.end();
    }

    private void run(int run) {
        for (int call = 1; call <= CALLS; call++) {
            choose();
            String done = call % 40 == 1 ? text(run) : oneCall(chance(30));
            String before = "run " + run + ", call " + call + ", " + done;
            Checks.dueSeen(before, access, seen(model.state));
        }
    }

    private int chance(int n) {
        chance = chance * 6364136223846793005L + 1442695040888963407L;
        return (int) ((chance >>> 33) % n);
    }

    private int argument(int below) {
        if (chance(60) == 0) {
            int[] far = {Integer.MIN_VALUE, Integer.MAX_VALUE, -1, -9, below, 7, 31, 32, 64};
            return far[chance(far.length)];
        }
        return chance(Math.max(1, below));
    }

    private void choose() {
        p = argument(model.state.size());
        y = argument(model.state.size());
        if (y == p && chance(20) != 0) {
            y = (p + 1) % Math.max(1, model.state.size());
        }
        z = argument(model.state.size());
        for (int i = 0; i < 9 && (z == p || z == y) && chance(20) != 0; i++) {
            z = argument(model.state.size());
        }
        k = argument(4);
        is = chance(3) != 0;
        what = argument(8);
    }

    private String with(String name) {
        return name + "(" + p + ", " + y + ", " + k + ", " + z + ", " + is + ", " + what + ")";
    }

    private void same(String call, Got got, int want) {
        int answer;
        try {
            answer = got.answer();
        } catch (RuntimeException e) {
            Class<?> c = e.getClass();
            answer = c == IndexOutOfBoundsException.class ? INDEX : c == IllegalArgumentException.class ? ARGUMENT
                : c == IllegalStateException.class ? STATE : -2000;
        }
        Checks.due(call, answer, want);
    }

    interface Got {
        int answer();
    }

    private boolean noThing(int i) {
        return !model.state.exists(i);
    }

    /** What a right over another thing throws, or 0. */
    private int wrongRight() {
        return noThing(p) || noThing(z) ? INDEX : p == z || k < 0 || k > 3 ? ARGUMENT : 0;
    }

    private int wrongStep() {
        return noThing(p) || noThing(y) || noThing(z) ? INDEX
            : p == y || p == z || y == z || k < 0 || k > 3 ? ARGUMENT : 0;
    }

    private String text(int run) {
        StringBuilder made = new StringBuilder("R");
        int things = run % 5 == 0 ? chance(8) : 3 + chance(5);
        for (int i = 0; i < things; i++) {
            made.append("ppppsb".charAt(chance(6)));
        }
        int rights = things < 2 ? 0 : run % 3 == 0 ? 30 : chance(31);
        made.append(rights > 0 ? "/" : "");
        for (int i = 0; i < rights; i++) {
            int x = chance(things);
            made.append(x).append("tgrwtg".charAt(chance(6))).append((x + 1 + chance(things - 1)) % things);
        }
        // with 30 tries some are told twice: those are kept out here, but not in every text
        String all = chance(4) == 0 ? made.toString() : withoutErrors(made);
        if (chance(3) == 0) {
            all = all.substring(0, chance(all.length() + 1)) + "Rpsb/tgrw0123456 8"
                .charAt(chance(18)) + all.substring(chance(all.length()));
        }
        same("clearText()", access::clearText, model.text.length());
        model.text = "";
        for (int i = 0; i < all.length(); i++) {
            append(all.charAt(i));
        }
        errorPosition();
        load();
        return "load of " + model.text;
    }

    private static String withoutErrors(StringBuilder made) {
        Object error = Model.read(made.toString());
        while (error instanceof Integer) {
            int at = (Integer) error - 2;
            made.delete(at, at + 3);
            if (made.charAt(made.length() - 1) == '/') {
                made.setLength(made.length() - 1);
            }
            error = Model.read(made.toString());
        }
        return made.toString();
    }

    private void append(int c) {
        int wrong = c < 0 || c > 255 ? ARGUMENT : model.text.length() == 110 ? STATE : 0;
        same("append(" + c + ")", () -> access.append(c), wrong != 0 ? wrong : model.text.length() + 1);
        if (wrong == 0) {
            model.text += (char) c;
        }
    }

    private void errorPosition() {
        Object read = Model.read(model.text);
        same("errorPosition() of " + model.text, access::errorPosition, read instanceof Integer ? (Integer) read : Model.NONE);
    }

    private void load() {
        Object read = Model.read(model.text);
        same("load() of " + model.text, access::load, read instanceof Integer ? STATE : ((Model.Seen) read).size());
        if (read instanceof Model.Seen) {
            model.state = (Model.Seen) read;
            model.remembered.clear();
            Arrays.fill(model.slots, null);
        }
    }

    private String oneCall(int which) {
        if (which < 9) {
            return action(which);
        }
        return which < 21 ? question(which) : other(which);
    }

    private void remember() {
        model.remembered.add(model.state);
        if (model.remembered.size() > 14) {
            model.remembered.remove(0);
        }
        model.state = model.state.copy();
    }

    private String action(int which) {
        switch (which) {
            case 0:
                int n = model.state.size();
                same("addThing", () -> access.addThing(is), n == 7 ? STATE : n);
                if (n < 7) {
                    remember();
                    model.state.things.append(is ? 'p' : 'b');
                }
                return "addThing";
            case 1:
                if (chance(3) == 0) {
                    remove();
                }
                return with("removeThing");
            case 2:
                wake();
                return with("wake");
            case 3:
            case 4:
                set();
                return with("set");
            case 5:
                step(false);
                return with("take");
            case 6:
                step(true);
                return with("give");
            default:
                boolean none = model.remembered.isEmpty();
                same("undo()", access::undo, none ? STATE : model.remembered.size() - 1);
                if (!none) {
                    model.state = model.remembered.remove(model.remembered.size() - 1);
                }
                return "undo";
        }
    }

    private void remove() {
        if (noThing(p)) {
            same(with("removeThing"), () -> access.removeThing(p), INDEX);
            return;
        }
        remember();
        int before = model.state.rights.size();
        Model.remove(model.state, p);
        same(with("removeThing"), () -> access.removeThing(p), before - model.state.rights.size());
    }

    private void wake() {
        if (noThing(p) || !model.state.isPerson(p)) {
            same(with("wake"), () -> access.wake(p, is), noThing(p) ? INDEX : STATE);
            return;
        }
        remember();
        model.state.things.setCharAt(p, is ? 'p' : 's');
        same(with("wake"), () -> access.wake(p, is), Model.spread(model.state).rounds.size());
    }

    private void set() {
        int wrong = wrongRight();
        boolean had = wrong == 0 && model.state.has(p, k, z);
        if (wrong == 0 && is && !had && model.state.rights.size() == 30) {
            wrong = STATE;
        }
        same(with("set"), () -> access.set(p, k, z, is) ? 1 : 0, wrong != 0 ? wrong : had ? 1 : 0);
        if (wrong == 0) {
            remember();
            model.state.rights.remove(Model.number(p, k, z));
            if (is) {
                model.state.rights.add(Model.number(p, k, z));
            }
        }
    }

    private void step(boolean gives) {
        int wrong = wrongStep();
        Model.Seen then = model.state.copy();
        if (wrong == 0 && !Model.step(then, gives, p, y, k, z)) {
            wrong = STATE;
        }
        same(with(gives ? "give" : "take"), () -> gives ? access.give(p, y, k, z) : access.take(p, y, k, z),
            wrong != 0 ? wrong : then.rights.size());
        if (wrong == 0) {
            remember();
            model.state = then;
        }
    }

    private String question(int which) {
        int wrong = wrongRight();
        int right = wrong == 0 ? Model.number(p, k, z) : 0;
        Model.Seen s = model.state;
        Model.End end = Model.spread(s);
        switch (which) {
            case 9:
                same(with("about"), () -> access.about(what), about(s, end));
                return "about";
            case 10:
                same(with("thing"), () -> access.thing(p, what), noThing(p) ? INDEX : thing(s, end));
                return "thing";
            case 11:
                int over = noThing(p) || noThing(z) ? INDEX : p == z ? ARGUMENT : over(is ? end.as(s) : s);
                same(with("rights"), () -> access.rights(p, z, is), over);
                return "rights";
            case 12:
                same(with("round"), () -> access.round(p, k, z), wrong != 0 ? wrong : end.rounds.getOrDefault(right, Model.NONE));
                return "round";
            case 13:
                same(with("way"), () -> access.way(p, k, z), wrong != 0 ? wrong : end.ways.getOrDefault(right, Model.NONE));
                return "way";
            case 14:
                same(with("proof"), () -> access.proof(p, k, z), wrong != 0 ? wrong : Model.proof(s, right));
                return "proof";
            case 15:
                int step = wrongStep() != 0 ? wrongStep() : Model.whyNot(s, is, p, y, k, z);
                same(with("whyNot"), () -> access.whyNot(is, p, y, k, z), step);
                return "whyNot";
            case 16:
                same(with("needed"), () -> access.needed(p, k, z), wrong != 0 ? wrong : Model.needed(s, right));
                return "needed";
            case 17:
            case 18:
                cut(wrong, right);
                return "cut";
            case 19:
                same("sleeper()", access::sleeper, Model.sleeper(s));
                return "sleeper";
            default:
                same("danger()", access::danger, Model.danger(s));
                return "danger";
        }
    }

    private int about(Model.Seen s, Model.End end) {
        int pairs = 0;
        int persons = 0;
        int awake = 0;
        for (int i = 0; i < s.size(); i++) {
            pairs += Model.learns(what == 7 ? end.as(s) : s, i).size();
            persons += s.isPerson(i) ? 1 : 0;
            awake += s.isAwake(i) ? 1 : 0;
        }
        int[] all = {s.size(), persons, awake, s.rights.size(), end.rounds.size(), end.last, pairs, pairs};
        return what < 0 || what > 7 ? ARGUMENT : all[what];
    }

    private int thing(Model.Seen s, Model.End end) {
        int has = 0;
        int over = 0;
        int hasAtEnd = 0;
        for (int right : end.rounds.keySet()) {
            boolean isThere = s.rights.contains(right);
            has += isThere && right / 100 == p ? 1 : 0;
            over += isThere && right % 10 == p ? 1 : 0;
            hasAtEnd += right / 100 == p ? 1 : 0;
        }
        int learns = 0;
        for (int b : Model.learns(what == 5 ? end.as(s) : s, p)) {
            learns += 1 << b;
        }
        int[] all = {s.isPerson(p) ? 1 : 0, s.isAwake(p) ? 1 : 0, has, over, learns, learns, hasAtEnd};
        return what < 0 || what > 6 ? ARGUMENT : all[what];
    }

    private int over(Model.Seen s) {
        int found = 0;
        for (int kind = 0; kind < 4; kind++) {
            found += s.has(p, kind, z) ? 1 << kind : 0;
        }
        return found;
    }

    private void cut(int wrong, int right) {
        int[] set = wrong == 0 ? Model.cut(model.state, right) : null;
        same(with("cut"), () -> access.cut(p, k, z), wrong != 0 ? wrong : set == null ? Model.NONE : set.length);
        for (int i = -1; i <= 2; i++) {
            int which = i;
            int want = wrong != 0 ? wrong : i < 0 || i > 1 ? ARGUMENT : set == null || i >= set.length ? Model.NONE : set[i];
            same(with("cutAt " + i), () -> access.cutAt(p, k, z, which), want);
        }
    }

    private String other(int which) {
        switch (which) {
            case 21:
                int m = chance(20) == 0 ? argument(101) : 1 + chance(99);
                long seed = chance(2) == 0 ? chance : chance(1000) - 500;
                same("simulate(" + seed + ", " + m + ")", () -> access.simulate(seed, m),
                    m < 1 || m > 99 ? ARGUMENT : Model.simulate(model.state, seed, m));
                return "simulate";
            case 22:
                int slot = argument(2);
                same("save(" + slot + ")", () -> access.save(slot), slot < 0 || slot > 1 ? INDEX : model.state.rights.size());
                if (slot == 0 || slot == 1) {
                    model.slots[slot] = model.state.copy();
                }
                return "save";
            case 23:
                restore(argument(2));
                return "restore";
            case 24:
                append(chance(3) == 0 ? argument(256) : "psb/0123456tgrw".charAt(chance(15)));
                errorPosition();
                return "append";
            default:
                runScript();
                return "runScript";
        }
    }

    private void restore(int slot) {
        int wrong = slot < 0 || slot > 1 ? INDEX : model.slots[slot] == null ? STATE : 0;
        same("restore(" + slot + ")", () -> access.restore(slot), wrong != 0 ? wrong : model.slots[slot].rights.size());
        if (wrong == 0) {
            model.state = model.slots[slot].copy();
            model.remembered.clear();
        }
    }

    private void runScript() {
        int n = chance(30) == 0 ? argument(4) : 1 + chance(3);
        long script = 0;
        for (int i = 0; i < Math.min(3, n); i++) {
            script = script * 100000 + group();
        }
        if (chance(30) == 0) {
            long[] far = {-1, Long.MIN_VALUE, Long.MAX_VALUE, 100000, 10000000000L, 1000000000000000L, 999999999999999L};
            script = far[chance(far.length)];
        }
        long whole = script;
        boolean isWrong = n < 1 || n > 3 || script < 0 || Long.toString(script).length() > 5 * n;
        same("runScript(" + n + ", " + script + ")", () -> access.runScript(n, whole),
            isWrong ? ARGUMENT : Model.runScript(model.state, n, script));
    }

    /** Groups that may succeed, but now and then any digits. */
    private int group() {
        int size = Math.max(1, model.state.size());
        int a = chance(size);
        int b = (a + 1 + chance(Math.max(1, size - 1))) % size;
        int c = chance(size);
        int right = 1000 * a + 100 * chance(4) + 10 * b;
        int kind = 1 + chance(9);
        switch (chance(15) == 0 ? 0 : kind) {
            case 1:
            case 2:
                return kind * 10000 + 1000 * a + 100 * b + 10 * chance(4) + c;
            case 3:
                return 30000 + right + chance(2);
            case 4:
                return 40000 + 1000 * a + 100 * chance(2);
            case 5:
                return 50000 + 1000 * a;
            case 6:
            case 7:
                return kind * 10000 + right;
            case 8:
                return 80000 + Math.max(0, Model.spread(model.state).rounds.size() + chance(5) - 2);
            case 9:
                return 90000 + 1000 * a + 100 * b;
            default:
                return chance(100000);
        }
    }

    /** As Checks.seen tells it of an object. */
    private static String seen(Model.Seen s) {
        StringBuilder all = new StringBuilder();
        for (int x = 0; x < s.size(); x++) {
            all.append(s.isPerson(x) ? 1 : 0).append(s.isAwake(x) ? 1 : 0).append(' ');
            for (int other = 0; other < s.size(); other++) {
                int found = 0;
                for (int kind = 0; kind < 4; kind++) {
                    found += s.has(x, kind, other) ? 1 << kind : 0;
                }
                all.append(x == other ? "-" : Integer.toHexString(found));
            }
            all.append(' ');
        }
        return all.toString();
    }
}
