import java.util.ArrayList;
import java.util.HashSet;
import java.util.List;
import java.util.Set;
import java.util.TreeMap;
import java.util.TreeSet;

/** The document once more, in its slowest and plainest form: rights are their numbers, steps are texts. */
final class Model {
    static final int NONE = -9;
    private static final String SIGNS = "tgrw";

    /** A state: p, s or b for each thing, and the numbers of the rights. */
    static final class Seen {
        final StringBuilder things = new StringBuilder();
        final TreeSet<Integer> rights = new TreeSet<>();

        Seen copy() {
            Seen other = new Seen();
            other.things.append(things);
            other.rights.addAll(rights);
            return other;
        }

        int size() {
            return things.length();
        }

        boolean exists(int i) {
            return i >= 0 && i < size();
        }

        boolean isAwake(int i) {
            return things.charAt(i) == 'p';
        }

        boolean isPerson(int i) {
            return things.charAt(i) != 'b';
        }

        boolean has(int x, int k, int y) {
            return rights.contains(number(x, k, y));
        }
    }

    /** The end of a spread: each right with its round and, from round 1 on, its way. */
    static final class End {
        final TreeMap<Integer, Integer> rounds = new TreeMap<>();
        final TreeMap<Integer, Integer> ways = new TreeMap<>();
        int last;

        Seen as(Seen start) {
            Seen end = start.copy();
            end.rights.addAll(rounds.keySet());
            return end;
        }
    }

    String text = "";
    Seen state = new Seen();
    final List<Seen> remembered = new ArrayList<>();
    final Seen[] slots = new Seen[2];

    static int number(int x, int k, int y) {
        return 100 * x + 10 * k + y;
    }

    static End spread(Seen start) {
        End end = new End();
        for (int right : start.rights) {
            end.rounds.put(right, 0);
        }
        while (true) {
            Seen before = end.as(start);
            TreeMap<Integer, Integer> come = new TreeMap<>();
            for (int gives = 0; gives <= 1; gives++) {
                for (int p = 0; p < start.size(); p++) {
                    for (int y = 0; y < start.size(); y++) {
                        stepsOf(before, gives, p, y, come);
                    }
                }
            }
            come.keySet().removeAll(end.rounds.keySet());
            if (come.isEmpty()) {
                return end;
            }
            end.last++;
            for (int right : come.keySet()) {
                end.rounds.put(right, end.last);
            }
            end.ways.putAll(come);
        }
    }

    private static void stepsOf(Seen before, int gives, int p, int y, TreeMap<Integer, Integer> come) {
        for (int k = 0; k < 4; k++) {
            for (int z = 0; z < before.size(); z++) {
                if (p != y && p != z && y != z && whyNot(before, gives == 1, p, y, k, z) == 0) {
                    come.putIfAbsent(number(gives == 1 ? y : p, k, z), 100 * gives + 10 * p + y);
                }
            }
        }
    }

    static int whyNot(Seen s, boolean gives, int p, int y, int k, int z) {
        return !s.isPerson(p) ? 1 : !s.isAwake(p) ? 2 : !s.has(p, gives ? 1 : 0, y) ? 3 : !s.has(gives ? p : y, k, z) ? 4 : 0;
    }

    static int proof(Seen s, int right) {
        End end = spread(s);
        if (!end.rounds.containsKey(right)) {
            return NONE;
        }
        Set<String> steps = new HashSet<>();
        prove(end, right, steps);
        return steps.size();
    }

    private static void prove(End end, int right, Set<String> steps) {
        if (end.rounds.get(right) == 0) {
            return;
        }
        int way = end.ways.get(right);
        if (!steps.add(way + " " + right % 100)) {
            return;
        }
        int p = way / 10 % 10;
        int y = way % 10;
        prove(end, number(p, way / 100, y), steps);
        prove(end, (way >= 100 ? p : y) * 100 + right % 100, steps);
    }

    static Set<Integer> learns(Seen s, int a) {
        Set<Integer> all = new TreeSet<>();
        hear(s, a, all);
        all.remove(a);
        return all;
    }

    private static void hear(Seen s, int a, Set<Integer> all) {
        for (int b = 0; b < s.size(); b++) {
            boolean hears = s.isPerson(a) && s.has(a, 2, b) || s.isPerson(b) && s.has(b, 3, a);
            if (hears && all.add(b)) {
                hear(s, b, all);
            }
        }
    }

    static int needed(Seen s, int right) {
        for (int count = 0; count <= 7; count++) {
            for (int set = 0; set < 128; set++) {
                Seen some = s.copy();
                boolean all = Integer.bitCount(set) == count;
                for (int i = 0; i < 7; i++) {
                    boolean is = (set >> i & 1) != 0;
                    all &= !is || s.exists(i) && s.isAwake(i);
                    if (!is && s.exists(i) && s.isPerson(i)) {
                        some.things.setCharAt(i, 's');
                    }
                }
                if (all && spread(some).rounds.containsKey(right)) {
                    return set;
                }
            }
        }
        return NONE;
    }

    private static boolean cuts(Seen s, int right, int a, int b) {
        Seen rest = s.copy();
        rest.rights.remove(a);
        rest.rights.remove(b);
        return !spread(rest).rounds.containsKey(right);
    }

    /** The first smallest set; null if 2 do not do. */
    static int[] cut(Seen s, int right) {
        if (cuts(s, right, NONE, NONE)) {
            return new int[0];
        }
        for (int a : s.rights) {
            if (cuts(s, right, a, NONE)) {
                return new int[] {a};
            }
        }
        for (int a : s.rights) {
            for (int b : s.rights.tailSet(a, false)) {
                if (cuts(s, right, a, b)) {
                    return new int[] {a, b};
                }
            }
        }
        return null;
    }

    static int sleeper(Seen s) {
        int best = NONE;
        int fewest = 1000;
        for (int i = 0; i < s.size(); i++) {
            if (s.isAwake(i)) {
                Seen other = s.copy();
                other.things.setCharAt(i, 's');
                int count = spread(other).rounds.size();
                best = count < fewest ? i : best;
                fewest = Math.min(count, fewest);
            }
        }
        return best;
    }

    static int danger(Seen s) {
        int best = NONE;
        int most = -1;
        for (int right = 0; right < 700; right++) {
            int x = right / 100;
            int k = right / 10 % 10;
            int y = right % 10;
            if (s.exists(x) && s.exists(y) && x != y && k < 4 && !s.rights.contains(right)) {
                Seen other = s.copy();
                other.rights.add(right);
                int count = spread(other).rounds.size();
                best = count > most ? right : best;
                most = Math.max(count, most);
            }
        }
        return best;
    }

    static void remove(Seen s, int i) {
        s.things.deleteCharAt(i);
        List<Integer> old = new ArrayList<>(s.rights);
        s.rights.clear();
        for (int right : old) {
            int x = right / 100;
            int y = right % 10;
            if (x != i && y != i) {
                s.rights.add(number(x > i ? x - 1 : x, right / 10 % 10, y > i ? y - 1 : y));
            }
        }
    }

    /** Does the step if it can be done. */
    static boolean step(Seen s, boolean gives, int p, int y, int k, int z) {
        int right = number(gives ? y : p, k, z);
        if (whyNot(s, gives, p, y, k, z) != 0 || !s.rights.contains(right) && s.rights.size() == 30) {
            return false;
        }
        s.rights.add(right);
        return true;
    }

    /** The state of the text, or the error position. */
    static Object read(String text) {
        Seen s = new Seen();
        if (!text.startsWith("R")) {
            return 0;
        }
        int at = 1;
        for (; at < text.length() && text.charAt(at) != '/'; at++) {
            if ("psb".indexOf(text.charAt(at)) < 0 || s.size() == 7) {
                return at;
            }
            s.things.append(text.charAt(at));
        }
        if (at == text.length()) {
            return s;
        }
        if (s.size() < 2) {
            return at;
        }
        do {
            for (int part = 1; part <= 3; part++) {
                String allowed = part == 2 ? SIGNS : "0123456".substring(0, s.size());
                boolean ends = at + part >= text.length();
                if (ends || allowed.indexOf(text.charAt(at + part)) < 0 || s.rights.size() == 30) {
                    return at + part;
                }
            }
            int x = text.charAt(at + 1) - '0';
            int y = text.charAt(at + 3) - '0';
            if (x == y || !s.rights.add(number(x, SIGNS.indexOf(text.charAt(at + 2)), y))) {
                return at + 3;
            }
            at += 3;
        } while (at + 1 < text.length());
        return s;
    }

    static int runScript(Seen start, int n, long script) {
        Seen s = start.copy();
        String digits = String.format("%0" + 5 * n + "d", script);
        for (int i = 0; i < n; i++) {
            if (!command(s, digits.substring(5 * i, 5 * i + 5))) {
                return i;
            }
        }
        return NONE;
    }

    private static boolean command(Seen s, String group) {
        int[] d = new int[5];
        for (int i = 0; i < 5; i++) {
            d[i] = group.charAt(i) - '0';
        }
        boolean areTwo = s.exists(d[1]) && s.exists(d[3]) && d[1] != d[3] && d[2] <= 3;
        switch (d[0]) {
            case 1:
            case 2:
                boolean areThree = s.exists(d[1]) && s.exists(d[2]) && s.exists(d[4])
                    && d[1] != d[2] && d[1] != d[4] && d[2] != d[4] && d[3] <= 3;
                return areThree && step(s, d[0] == 2, d[1], d[2], d[3], d[4]);
            case 3:
                int right = number(d[1], d[2], d[3]);
                if (!areTwo || d[4] > 1 || d[4] == 1 && !s.rights.contains(right) && s.rights.size() == 30) {
                    return false;
                }
                s.rights.remove(right);
                if (d[4] == 1) {
                    s.rights.add(right);
                }
                return true;
            case 4:
                if (!s.exists(d[1]) || !s.isPerson(d[1]) || d[2] > 1 || d[3] + d[4] != 0) {
                    return false;
                }
                s.things.setCharAt(d[1], d[2] == 1 ? 'p' : 's');
                return true;
            case 5:
                if (!s.exists(d[1]) || d[2] + d[3] + d[4] != 0) {
                    return false;
                }
                remove(s, d[1]);
                return true;
            case 6:
                return areTwo && d[4] == 0 && s.has(d[1], d[2], d[3]);
            case 7:
                return areTwo && d[4] == 0 && spread(s).as(s).has(d[1], d[2], d[3]);
            case 8:
                return d[1] == 0 && spread(s).rounds.size() <= d[2] * 100 + d[3] * 10 + d[4];
            case 9:
                return s.exists(d[1]) && s.exists(d[2]) && d[1] != d[2] && d[3] + d[4] == 0 && learns(s, d[1]).contains(d[2]);
            default:
                return false;
        }
    }

    static int simulate(Seen start, long seed, int m) {
        Seen s = start.copy();
        long x = seed;
        int n = s.size();
        for (int i = 0; i < m && n >= 3; i++) {
            x = x * 6364136223846793005L + 1442695040888963407L;
            int r = (int) (x >>> 33);
            int p = r / 2 % n;
            int y = (p + 1 + r / 16 % (n - 1)) % n;
            List<Integer> others = new ArrayList<>();
            for (int z = 0; z < n; z++) {
                if (z != p && z != y) {
                    others.add(z);
                }
            }
            if (s.rights.size() < 30) {
                step(s, r % 2 == 1, p, y, r / 1024 % 4, others.get(r / 128 % (n - 2)));
            }
        }
        return 100 * (s.rights.size() - start.rights.size()) + s.rights.size();
    }
}
