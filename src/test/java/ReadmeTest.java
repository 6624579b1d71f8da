/** The example that README.md shows. */
public final class ReadmeTest {
    public static void main(String[] args) {
        AccessSpread access = new AccessSpread();
        Checks.due("addThing of the reader", access.addThing(true), 0);
        Checks.due("addThing of the box", access.addThing(false), 1);
        Checks.due("addThing of the letter", access.addThing(false), 2);
        Checks.due("set(0, 0, 1, true)", access.set(0, 0, 1, true), false);
        Checks.due("set(1, 2, 2, true)", access.set(1, 2, 2, true), false);
        Checks.due("round", access.round(0, 2, 2), 1);
        Checks.due("way", access.way(0, 2, 2), 1);
        Checks.due("cut", access.cut(0, 2, 2), 1);
        Checks.due("cutAt", access.cutAt(0, 2, 2, 0), 1);
        Checks.due("take", access.take(0, 1, 2, 2), 3);
        Checks.due("undo", access.undo(), 5);
        Checks.dueSeen("the state then", access, Checks.seen(Checks.loaded("Rpbb/0t11r2")));
        Checks.end();
    }
}
