/** Promises 21 and 22: sums and gauges. */
final class SumsTest {
    private static final int BAD = -1, NOT = -2, SPENT = -7;
    private static final long NO = Long.MIN_VALUE;
    private static final Check check = new Check();

    public static void main(String[] args) {
        wrongNumbers();
        twoPoints();
        threePoints();
        cutsComeBack();
        triesDown();
        noPruning();
        gaugeNumbers();
        gaugeWrong();
        check.end();
    }

    private static void wrongNumbers() {
        CutDistances x = new CutDistances();
        check.due("21 tries below", x.sum(0, 0), BAD);
        check.due("21 tries above", x.sum(10000, 0), BAD);
        check.due("21 least tries", x.sum(Integer.MIN_VALUE, 0), BAD);
        check.due("21 s below", x.sum(1, -2), BAD);
        check.due("21 s above", x.sum(1, 8), BAD);
        check.due("21 s far above", x.sum(1, Integer.MAX_VALUE), BAD);
        check.due("21 the last cut", x.sum(7, 7), 0);
        x.points(2);
        check.due("21 beyond the only cut", x.sum(1, 2), BAD);
        x.points(6);
        check.due("21 the last of 31", x.sum(31, 31), 0);
        check.due("21 a try less", x.sum(30, 31), SPENT);
        check.due("21 all of 0 takes a try each", x.sum(9999, -1), 31);
    }

    private static void twoPoints() {
        CutDistances x = new CutDistances();
        x.points(2);
        x.put(0, 1, 999);
        check.due("21 the only cut", x.sum(1, 1), 999);
        check.due("21 together", x.sum(1, 0), 999);
        check.due("21 one try", x.sum(1, -1), 1);
    }

    private static void threePoints() {
        CutDistances x = new CutDistances();
        Texts.read(x, "3;3;4,5");
        check.due("21 cut 1", x.sum(9999, 1), 2);
        check.due("21 cut 2", x.sum(9999, 2), 3);
        check.due("21 cut 3", x.sum(9999, 3), 1);
        check.due("21 together", x.sum(9999, 0), 6);
        Texts.read(x, "3;1;1,1");
        for (int s = -1; s <= 3; s++) {
            check.due("21 an odd round has none, s " + s, x.sum(9999, s), NOT);
        }
        Texts.read(x, "3;0;0,1");
        check.due("21 a broken triangle has none", x.sum(9999, 0), NOT);
        check.due("21 just its three tries", x.sum(3, 0), NOT);
        check.due("21 a try less", x.sum(2, 0), SPENT);
    }

    private static void cutsComeBack() {
        CutDistances x = new CutDistances();
        x.points(5);
        x.cut(15, 4);
        x.cut(1, 2);
        check.due("21 tries", x.sum(9999, -1), 15);
        check.due("21 the last cut's", x.sum(9999, 15), 4);
        check.due("21 the first cut's", x.sum(9999, 1), 2);
        check.due("21 another's", x.sum(9999, 8), 0);
        check.due("21 changes nothing", x.count(2), 4 * 4 + 2 * 4);
        check.due("21 is no deed", x.count(3), 2);
        x.points(6);
        x.cut(16, 5);
        x.cut(1, 2);
        check.due("21 tries of six points", x.sum(9999, -1), 31);
        check.due("21 cut 16 of six points", x.sum(9999, 16), 5);
        check.due("21 all of six points", x.sum(31, 0), 7);
    }

    /** 3;3;4,5: CUT 1 gets 3 first; below it CUT 2 and CUT 3 are gone through, down to 0 each. */
    private static void triesDown() {
        CutDistances x = new CutDistances();
        Texts.read(x, "3;3;4,5");
        // CUT 1 at 3: LEFT 0, 4, 2: CUT 2 gets 2, 1, 0, and CUT 3 (0, 1 and 0, 2 apart) 0 each: 1 + 3 * 2.
        // CUT 1 at 2: LEFT 1, 4, 3: CUT 2 gets 3: LEFT 1, 1, 0: CUT 3 gets 1: 3 more.
        check.due("21 tries", x.sum(9999, -1), 10);
        check.due("21 just enough", x.sum(10, 2), 3);
        check.due("21 a try less", x.sum(9, 2), SPENT);
        check.due("21 a try less, for the tries", x.sum(9, -1), SPENT);
    }

    /** PAIR (1, 2) is too long from the first on, but no TRY is left out. */
    private static void noPruning() {
        CutDistances x = new CutDistances();
        Texts.read(x, "3;2;2,99");
        int made = 0;
        for (int a = 2; a >= 0; a--) {
            made++;
            for (int b = 2; b >= 0; b--) {
                made++;
                made += Math.min(2 - a, 2 - b) + 1;
            }
        }
        check.due("21 all tries", x.sum(made, 0), NOT);
        check.due("21 all but one", x.sum(made - 1, 0), SPENT);
    }

    private static void gaugeNumbers() {
        CutDistances x = new CutDistances();
        Texts.read(x, "4;1;2,30;400,50,6");
        check.due("22 within none", x.gauge(0, 0), 0);
        check.due("22 within one", x.gauge(0, 4), 0);
        check.due("22 within two", x.gauge(0, 6), 30);
        check.due("22 within three", x.gauge(0, 7), 33);
        check.due("22 within all", x.gauge(0, 15), 489);
        check.due("22 doubled", x.gauge(1, 7), 66);
        check.due("22 across none", x.gauge(2, 0), 0);
        check.due("22 across one", x.gauge(2, 8), 456);
        check.due("22 across two", x.gauge(2, 3), 2 + 400 + 30 + 50 - 2);
        check.due("22 across all", x.gauge(2, 15), -978);
        check.due("22 longest none", x.gauge(3, 0), 0);
        check.due("22 longest one", x.gauge(3, 1), 0);
        check.due("22 longest", x.gauge(3, 14), 50);
        check.due("22 longest of a PAIR in a row", x.gauge(3, 6), 30);
        check.due("22 longest of the last PAIR", x.gauge(3, 12), 6);
        check.due("22 longest of the first PAIR", x.gauge(3, 3), 1);
        check.due("22 longest of all", x.gauge(3, 15), 400);
        check.due("22 slack", x.gauge(4, 14), 36);
        check.due("22 slack of two", x.gauge(4, 9), 0);
        check.due("22 slack of one", x.gauge(4, 1), 0);
    }

    private static void gaugeWrong() {
        CutDistances x = new CutDistances();
        check.due("22 kind below", x.gauge(-1, 1), NO);
        check.due("22 kind above", x.gauge(5, 1), NO);
        check.due("22 set below", x.gauge(0, -1), NO);
        check.due("22 set above", x.gauge(0, 16), NO);
        check.due("22 greatest set", x.gauge(0, 15), 0);
        x.points(6);
        check.due("22 greatest set of six", x.gauge(0, 63), 0);
        check.due("22 above six", x.gauge(0, 64), NO);
        x.points(2);
        check.due("22 above two", x.gauge(0, 4), NO);
    }
}
