/** Promises 14, 15, 18 and 19 for every WALL there is, compared with Model: RANK there is by big whole numbers. */
final class RanksTest {
    private static final Check check = new Check();

    public static void main(String[] args) {
        for (int n = 2; n <= 6; n++) {
            allWalls(n);
        }
        check.end();
    }

    private static void allWalls(int n) {
        Model model = new Model();
        model.points(n);
        int all = model.walls(3, 0);
        for (int k = 0; k < all; k++) {
            // What an object answers behind its 512th call is free, so each WALL has one of its own.
            CutDistances x = new CutDistances();
            x.points(n);
            String wall = " of wall " + k + " of " + n + " points";
            check.due("15 width" + wall, x.holdWall(0, 3, k), model.holdWall(0, 3, k));
            for (int i = 0; i < n; i++) {
                check.due("15 number " + i + wall, x.number(0, i), model.number(0, i));
            }
            for (int what = 0; what < 3; what++) {
                check.due("18 roots, " + what + wall, x.roots(0, what), model.roots(0, what));
            }
            int last = model.roots(0, 0) - 1;
            check.due("19 the last root" + wall, x.root(0, Math.max(last, 0)), model.root(0, Math.max(last, 0)));
        }
    }
}
