/**
 * "Of several the first that the call's words name. What is refused so changes nothing, but where it is told." Each
 * refusal of each call, also where several would be due, on a full bench of four POINTS (Benches tells what is on it).
 */
final class RefusedTest {
    private static final int BAD = -1, NOT = -2, FULL = -3, STATE = -5, SPENT = -7;
    private static final int NOTHING = -11, OTHER_KIND = -12, NO_PLACE = -13, BELOW_0 = -14;
    private static final long NO = Long.MIN_VALUE;
    private static final int POINTS = 4;
    private static final Check check = new Check();

    public static void main(String[] args) {
        onANewObject();
        distances();
        beyondTheirBounds();
        deeds();
        firstOfNone();
        wallsBeyondTheLast();
        wallOfRows();
        wallOfNoWalls();
        valueWithoutWall();
        rootsWithoutWall();
        rootWithoutWall();
        switchedWithoutWall();
        sums();
        gauges();
        tapeFull();
        faults();
        spelled();
        holders();
        rows();
        judged();
        noImage();
        counts();
        asking();
        check.end();
    }

    private static CutDistances bench(String... ahead) {
        CutDistances x = Benches.full(POINTS);
        Calls.all(x, ahead);
        return x;
    }

    private static void refused(String call, long due, String... ahead) {
        CutDistances x = bench(ahead);
        check.due(call, Calls.ask(x, call), due);
        check.same(call + " is refused and changes nothing", Whole.of(x), Whole.of(bench(ahead)));
    }

    /** What may be refused on a new object. */
    private static void onANewObject() {
        String[] calls = {
            "back()", "undo()", "read()", "wallOf(0, 0)", "roots(0, 0)", "root(0, 0)", "switched(0, 1)", "taken(0, 0)",
            "set(0, 0, 0)", "judge(0)", "triangles(1)", "rounds(1)", "walls(3, 3)", "sum(6, 0)", "cut(1, -1)",
        };
        int[] due = {
            STATE, STATE, -1000, NOTHING, NOTHING, NOTHING, NOTHING, NOTHING,
            NOTHING, NOTHING, NOT, NOT, NOT, SPENT, STATE,
        };
        String fresh = Whole.of(new CutDistances());
        for (int k = 0; k < calls.length; k++) {
            CutDistances x = new CutDistances();
            check.due("new: " + calls[k], Calls.ask(x, calls[k]), due[k]);
            check.same("new: " + calls[k] + " changes nothing", Whole.of(x), fresh);
        }
        CutDistances x = new CutDistances();
        check.due("new: value(0)", x.value(0), NO);
        check.due("new: number(0, 0)", x.number(0, 0), NO);
        check.same("new: value and number change nothing", Whole.of(x), fresh);
    }

    private static void distances() {
        refused("put(1, 1, 1000)", BAD);
        refused("put(4, 4, 5)", BAD);
        refused("put(-1, -1, 5)", BAD);
        refused("put(least, most, least)", BAD);
        refused("at(0, 0)", BAD);
        refused("at(3, 3)", BAD);
        refused("at(4, 4)", BAD);
        refused("place(4, 100, 100)", BAD);
        refused("place(0, -1, 0)", BAD);
        refused("place(0, 0, 100)", BAD);
        refused("points(1)", BAD);
        refused("points(7)", BAD);
    }

    /** One PAIR is beyond its bounds, others that the CUT SEPARATES would not be: no DISTANCE changes. */
    private static void beyondTheirBounds() {
        refused("cut(4, 1)", STATE, "put(2, 3, 999)");
        refused("cut(7, 1)", STATE, "put(0, 1, 999)");
        refused("cut(4, 99)", STATE, "put(0, 3, 901)");
        refused("cut(4, -1)", STATE, "put(2, 3, 0)");
        refused("cut(4, -99)", STATE, "put(0, 3, 98)");
        refused("cut(0, 99)", BAD, "put(0, 1, 999)");
        refused("cut(8, -99)", BAD, "put(0, 1, 0)");
        refused("cut(4, 100)", BAD, "put(2, 3, 999)");
        refused("cut(4, -100)", BAD, "put(2, 3, 0)");
        refused("stretch(2)", STATE, "put(2, 3, 500)");
        refused("stretch(10)", STATE);
        refused("stretch(100)", BAD);
        refused("stretch(-1)", BAD);
    }

    private static void deeds() {
        refused("back()", STATE, "points(4)");
        refused("back()", STATE, "undo()");
        refused("back()", STATE, "back()", "back()", "back()", "back()", "back()", "back()", "back()", "back()");
    }

    private static void firstOfNone() {
        refused("triangles(1)", NOT, "stretch(0)");
        refused("rounds(1)", NOT, "stretch(2)");
        refused("walls(1, 3)", NOT, "stretch(0)");
        refused("walls(3, 3)", NOT, "stretch(0)", "cut(3, 4)");
        refused("triangles(2)", BAD, "stretch(0)");
        refused("rounds(2)", BAD, "stretch(0)");
        refused("walls(4, 3)", BAD, "stretch(0)");
        refused("walls(0, 5)", BAD);
    }

    /** There are 16 WALLS of WIDTH 1 of four POINTS. */
    private static void wallsBeyondTheLast() {
        refused("wall(1, 16, 0)", NOT);
        refused("wall(3, most, 3)", NOT);
        refused("wall(4, 16, 0)", BAD);
        refused("wall(1, 16, 4)", BAD);
        refused("wall(1, 16, -1)", BAD);
        refused("wall(1, least, 0)", BAD);
        refused("holdWall(0, 1, 16)", NOT);
        refused("holdWall(2, 1, 16)", NOT);
        refused("holdWall(5, 3, most)", NOT);
        refused("holdWall(6, 1, 16)", BAD);
        refused("holdWall(2, 0, 16)", BAD);
        refused("holdWall(2, 1, -1)", BAD);
    }

    private static void wallOfRows() {
        refused("wallOf(2, 3)", STATE, "row(3, 0)");
        refused("wallOf(3, 3)", STATE, "row(3, 3)", "set(3, 0, 1)");
        refused("wallOf(2, 5)", STATE);
        refused("wallOf(5, 5)", STATE);
        refused("wallOf(0, 3)", STATE, "set(3, 0, 1)");
        refused("wallOf(0, 3)", STATE, "set(3, 1, 0)");
        refused("wallOf(0, 3)", STATE, "set(3, 0, 4)", "set(3, 1, -3)");
        refused("wallOf(0, 3)", STATE, "set(3, 0, -4)", "set(3, 1, 3)", "set(3, 2, 2)");
        refused("wallOf(0, 3)", STATE, "set(3, 0, 1)", "set(3, 1, 3)", "set(3, 2, 1)", "set(3, 3, -4)");
        refused("wallOf(0, 3)", STATE, "set(3, 0, least)", "set(3, 3, least)");
        refused("wallOf(0, 3)", STATE, "set(3, 0, most)", "set(3, 1, most)", "set(3, 2, 3)");
        refused("wallOf(0, 3)", STATE, "points(6)");
    }

    private static void wallOfNoWalls() {
        refused("wallOf(3, 0)", NOTHING);
        refused("wallOf(0, 0)", NOTHING);
        refused("wallOf(3, 1)", OTHER_KIND);
        refused("wallOf(3, 2)", OTHER_KIND);
        refused("wallOf(2, 2)", OTHER_KIND);
        refused("wallOf(3, 4)", OTHER_KIND);
        for (int from = 0; from < 6; from++) {
            refused("wallOf(6, " + from + ")", BAD);
            refused("wallOf(-1, " + from + ")", BAD);
        }
        refused("wallOf(6, 6)", BAD);
        refused("wallOf(0, 6)", BAD);
        refused("wallOf(0, -1)", BAD);
    }

    private static void valueWithoutWall() {
        refused("value(0)", NO);
        refused("value(1)", NO);
        refused("value(3)", NO);
        refused("value(4)", NO);
        refused("value(5)", NO);
        refused("value(2)", NO, "points(3)");
        refused("value(2)", NO, "points(5)");
        refused("value(-1)", NO);
        refused("value(6)", NO);
    }

    private static void rootsWithoutWall() {
        refused("roots(0, 0)", NOTHING);
        refused("roots(1, 1)", OTHER_KIND);
        refused("roots(3, 2)", OTHER_KIND);
        refused("roots(4, 0)", STATE);
        refused("roots(2, 0)", STATE, "points(3)");
        refused("roots(2, 2)", STATE, "points(5)");
        for (int h = -1; h <= 6; h++) {
            refused("roots(" + h + ", 3)", BAD);
            refused("roots(" + h + ", -1)", BAD);
        }
        refused("roots(6, 0)", BAD);
        refused("roots(-1, 0)", BAD);
    }

    private static void rootWithoutWall() {
        refused("root(0, 0)", NOTHING);
        refused("root(0, 99)", NOTHING);
        refused("root(1, 0)", OTHER_KIND);
        refused("root(3, 99)", OTHER_KIND);
        refused("root(4, 0)", STATE);
        refused("root(4, 99)", STATE);
        refused("root(2, 0)", STATE, "points(3)");
        refused("root(2, 7)", NOT);
        refused("root(2, most)", NOT);
        for (int h = -1; h <= 6; h++) {
            refused("root(" + h + ", -1)", BAD);
        }
        refused("root(6, 99)", BAD);
        refused("root(-1, 99)", BAD);
    }

    /** HOLDER 2 is to hold 1, 1, -1, 0. */
    private static void switchedWithoutWall() {
        String[] wall = {"row(2, 4)", "set(2, 0, 1)", "set(2, 1, 1)", "set(2, 2, -1)", "wallOf(2, 2)"};
        refused("switched(2, 1)", STATE, wall);
        refused("switched(2, 2)", STATE, wall);
        refused("switched(2, 5)", STATE, wall);
        refused("switched(2, 6)", STATE, wall);
        refused("switched(0, 1)", NOTHING);
        refused("switched(1, 1)", OTHER_KIND);
        refused("switched(3, 1)", OTHER_KIND);
        refused("switched(4, 1)", STATE);
        refused("switched(2, 4)", STATE, "points(5)");
        refused("switched(2, 3)", STATE, "points(3)");
        refused("switched(2, 4)", BAD, "points(3)");
        for (int h = -1; h <= 6; h++) {
            refused("switched(" + h + ", 0)", BAD);
            refused("switched(" + h + ", 8)", BAD);
        }
        refused("switched(6, 1)", BAD);
        refused("switched(-1, 1)", BAD);
    }

    /** "4;0;0,0;0,0,1": there is no SUM; each of seven CUTS gets 0, and that is all. */
    private static void sums() {
        String[] oneBroken = {"stretch(0)", "put(2, 3, 1)"};
        for (int s = -1; s <= 7; s++) {
            refused("sum(7, " + s + ")", NOT, oneBroken);
            refused("sum(9999, " + s + ")", NOT, oneBroken);
            refused("sum(6, " + s + ")", SPENT, oneBroken);
            refused("sum(6, " + s + ")", SPENT, "stretch(0)");
        }
        refused("sum(0, 0)", BAD, oneBroken);
        refused("sum(10000, 0)", BAD, oneBroken);
        refused("sum(1, -2)", BAD, oneBroken);
        refused("sum(1, 8)", BAD, oneBroken);
    }

    private static void gauges() {
        for (int kind = -1; kind <= 5; kind++) {
            refused("gauge(" + kind + ", -1)", NO);
            refused("gauge(" + kind + ", 16)", NO);
        }
        refused("gauge(5, 0)", NO);
        refused("gauge(-1, 15)", NO);
    }

    /** The bytes of a call come all or none. */
    private static void tapeFull() {
        for (int held = 76; held <= 80; held++) {
            for (int n = 1; n <= 4; n++) {
                if (held + n > 80) {
                    refused("feed(825307441, " + n + ")", FULL, tapeOf(held));
                } else {
                    check.due("23 " + n + " behind " + held, bench(tapeOf(held)).feed(0, n), held + n);
                }
            }
            refused("feed(0, 0)", BAD, tapeOf(held));
            refused("feed(0, 5)", BAD, tapeOf(held));
        }
    }

    private static String[] tapeOf(int bytes) {
        String[] calls = new String[1 + bytes];
        calls[0] = "wipe()";
        for (int k = 1; k <= bytes; k++) {
            calls[k] = "feed(48, 1)";
        }
        return calls;
    }

    /** A FAULT empties THE TAPE and changes nothing else. */
    private static void faults() {
        String[] texts = {"", "4", "4;1;2,3;4,5", "4;1;2,3;4,5,", "4;1;2,3;4,5,6;", "3;1;2,x", "2;1000", "7;1", "1"};
        for (String text : texts) {
            CutDistances x = bench("wipe()");
            Benches.tape(x, text);
            check.holds("25 a FAULT: " + text, x.read() <= -1000);
            check.same("25 a FAULT changes nothing else: " + text, Whole.of(x), Whole.of(bench("wipe()")));
        }
    }

    private static void spelled() {
        refused("spell(-2)", BAD);
        refused("spell(25)", NOT);
        refused("spell(most)", NOT);
    }

    private static void holders() {
        refused("hold(6)", BAD);
        refused("lose(6)", BAD);
        refused("lose(-1)", BAD);
        for (int kind = 0; kind <= 2; kind++) {
            refused("taken(0, " + kind + ")", NOTHING);
            refused("taken(3, " + kind + ")", OTHER_KIND);
            refused("taken(6, " + kind + ")", BAD);
        }
        refused("taken(1, 1)", OTHER_KIND);
        refused("taken(2, 0)", OTHER_KIND);
        for (int h = -1; h <= 6; h++) {
            refused("taken(" + h + ", 3)", BAD);
            refused("taken(" + h + ", -1)", BAD);
        }
        refused("number(0, 0)", NO);
        refused("number(2, 4)", NO);
        refused("number(2, -1)", NO);
        refused("number(6, 0)", NO);
    }

    private static void rows() {
        refused("row(3, -1)", BELOW_0);
        refused("row(2, least)", BELOW_0);
        refused("row(3, 21)", BAD);
        refused("row(3, most)", BAD);
        refused("row(6, -1)", BAD);
        refused("row(-1, 21)", BAD);
        refused("set(3, 5, 1)", NO_PLACE);
        refused("set(3, -1, 1)", NO_PLACE);
        refused("set(0, 0, 1)", NOTHING);
        refused("set(0, -1, 1)", NOTHING);
        refused("set(1, 0, 1)", OTHER_KIND);
        refused("set(2, 0, 1)", OTHER_KIND);
        refused("set(2, 4, 1)", OTHER_KIND);
        refused("set(6, 0, 1)", BAD);
        refused("set(-1, -1, 1)", BAD);
        refused("set(3, 0, 1)", NO_PLACE, "row(3, 0)");
    }

    private static void judged() {
        refused("judge(0)", NOTHING);
        refused("judge(1)", OTHER_KIND);
        refused("judge(2)", OTHER_KIND);
        refused("judge(6)", BAD);
        refused("judge(3)", NOT, "row(3, 6)", "stretch(0)");
    }

    private static void noImage() {
        CutDistances x = new CutDistances();
        Calls.all(x, "put(0, 1, 5)", "place(2, 1, 1)");
        check.due("35 none was kept", x.undo(), STATE);
        check.due("35 distances stay", x.at(0, 1), 5);
        check.due("35 deeds stay", x.count(3), 1);
        check.due("35 places stay", x.place(2, 1, 1), 101);
    }

    private static void counts() {
        refused("count(-1)", BAD);
        refused("count(5)", BAD);
    }

    /** Calls that only ask change nothing either where they are answered. */
    private static void asking() {
        String[] calls = {
            "at(2, 1)", "triangles(0)", "triangles(1)", "rounds(0)", "rounds(1)", "walls(3, 0)", "walls(2, 1)",
            "walls(1, 4)", "wall(2, 5, 1)", "value(2)", "roots(2, 0)", "roots(2, 1)", "roots(2, 2)", "root(2, 0)",
            "sum(9999, 0)", "sum(5, -1)", "gauge(0, 7)", "gauge(2, 7)", "gauge(4, 15)", "spell(-1)", "spell(3)",
            "taken(1, 0)", "taken(2, 1)", "number(5, 19)", "judge(3)", "count(2)",
        };
        String untouched = Whole.of(bench());
        for (String call : calls) {
            CutDistances x = bench();
            Calls.ask(x, call);
            check.same(call + " changes nothing", Whole.of(x), untouched);
        }
    }
}
