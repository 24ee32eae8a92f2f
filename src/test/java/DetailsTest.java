/** The sentences of "Details" and "Answers", one by one, with what stands just beside each of them. */
final class DetailsTest {
    private static final int BAD = -1, NOT = -2, FULL = -3, STATE = -5, SPENT = -7;
    private static final long NO = Long.MIN_VALUE;
    private static final Check check = new Check();

    public static void main(String[] args) {
        answers();
        noneOfThemByLongs();
        noDeedBehindPoints();
        noDeedBehindUndo();
        nothingOtherwiseIsNoDeed();
        placesAreNoDeeds();
        comingPlacesByRead();
        comingPlacesByBack();
        stayingPlaces();
        triesWith0();
        lastTryFindsTheSum();
        notWhateverIsAsked();
        leftIsTheLeast();
        figuresAhead();
        tooFewPoints();
        wallsNotByWidth();
        greatestValueBelow0();
        rankByFractions();
        cutWithoutNumbers();
        gaugesOfNoneAndOne();
        straightRows();
        cutBy0();
        bytesOnlyWhenRead();
        memoryOfItsOwn();
        check.end();
    }

    private static CutDistances withWall(int... numbers) {
        CutDistances x = Benches.ofPoints(numbers.length);
        Benches.rowOf(x, 0, numbers);
        x.wallOf(0, 0);
        return x;
    }

    /** "BAD (-1) .. NOT (-2) .. FULL (-3) .. STATE (-5) .. SPENT (-7) .. -11 .. -12 .. -13 .. -14" */
    private static void answers() {
        CutDistances x = new CutDistances();
        check.due("BAD", x.points(0), -1);
        check.due("NOT", x.spell(99), -2);
        Texts.feed(x, "0".repeat(80));
        check.due("FULL", x.feed(0, 1), -3);
        check.due("STATE", x.back(), -5);
        check.due("SPENT", x.sum(1, 0), -7);
        check.due("nothing is there", x.judge(0), -11);
        x.hold(0);
        check.due("of another kind", x.judge(0), -12);
        x.row(0, 2);
        check.due("a place that is not there", x.set(0, 2, 1), -13);
        check.due("a size below 0", x.row(0, -1), -14);
        check.due("the constants", CutDistances.BAD + CutDistances.NOT + CutDistances.FULL + CutDistances.STATE
            + CutDistances.SPENT, BAD + NOT + FULL + STATE + SPENT);
    }

    /** "NO (the least long) is told by longs in place of all of these." */
    private static void noneOfThemByLongs() {
        CutDistances x = new CutDistances();
        check.due("NO", CutDistances.NO, Long.MIN_VALUE);
        check.due("BAD as NO", x.value(6), NO);
        check.due("-11 as NO", x.value(0), NO);
        check.due("-11 of number as NO", x.number(0, 0), NO);
        x.row(0, 1);
        check.due("-12 as NO", x.value(0), NO);
        check.due("-13 as NO", x.number(0, 1), NO);
        x.holdWall(0, 1, 0);
        x.points(5);
        check.due("STATE as NO", x.value(0), NO);
        check.due("BAD of gauge as NO", x.gauge(5, 0), NO);
        // Numbers that are below 0 themselves are told all the same.
        x.row(0, 3);
        int[] least = {BAD, Integer.MIN_VALUE, Integer.MIN_VALUE + 1};
        for (int i = 0; i < 3; i++) {
            x.set(0, i, least[i]);
            check.due("a number below 0", x.number(0, i), least[i]);
        }
        CutDistances y = withWall(2, -1);
        y.put(0, 1, 999);
        check.due("a value below 0", y.value(0), -2 * 999);
        check.due("a gauge below 0", y.gauge(2, 3), -2 * 999);
    }

    /** "No DEED can be taken BACK behind points() or undo(), also if N stays as it was." */
    private static void noDeedBehindPoints() {
        for (int n = 2; n <= 6; n++) {
            CutDistances x = Benches.ofText("4;1;2,3;4,5,6");
            x.put(0, 1, 9);
            check.due("points tells what N was", x.points(n), 4);
            check.due("no deeds behind points(" + n + ")", x.count(3), 0);
            check.due("none back behind points(" + n + ")", x.back(), STATE);
            check.due("N stays", x.count(0), n);
            check.due("distances stay", x.count(2), 0);
        }
        CutDistances x = new CutDistances();
        x.put(0, 1, 9);
        check.due("points refused", x.points(7), BAD);
        check.due("it leaves the deed", x.back(), 0);
    }

    private static void noDeedBehindUndo() {
        CutDistances x = Benches.ofText("4;1;2,3;4,5,6");
        check.due("undo refused", x.undo(), STATE);
        check.due("it leaves the deed", x.count(3), 1);
        x.image();
        check.due("the image leaves it, too", x.count(3), 1);
        check.due("undo of what is so already", x.undo(), 4);
        check.due("none back behind it", x.back(), STATE);
        check.due("distances stay", x.count(2), 21);
        x.stretch(2);
        check.due("a deed behind undo can be taken back", x.back(), 0);
        check.due("up to undo", x.count(2), 21);
        check.due("no further", x.back(), STATE);
    }

    /** "Calls by which nothing is otherwise are no DEEDS": the deed ahead of them stays the latest. */
    private static void nothingOtherwiseIsNoDeed() {
        String[] none = {
            "put(0, 1, 7)", "put(1, 0, 7)", "cut(3, 0)", "paths()", "town()", "stretch(1)", "read()", "cut(3, 100)",
            "cut(3, -8)", "stretch(100)", "hold(0)", "holdWall(1, 1, 1)", "row(2, 9)", "feed(0, 4)", "place(2, 1, 1)",
        };
        for (String call : none) {
            CutDistances x = new CutDistances();
            x.put(0, 1, 15);
            // By the PLACES, too, it is 7 from POINT 0 to each of the others, and 0 between these.
            for (int point = 1; point < 4; point++) {
                x.place(point, 3, 4);
            }
            x.town();
            x.put(2, 3, 0);
            check.due("deeds ahead of " + call, x.count(3), 2);
            Texts.feed(x, "4;7;7,0;07,00,000");
            Calls.ask(x, call);
            check.due("deeds behind " + call, x.count(3), 2);
            check.due("the latest one still, " + call, x.back(), 1);
            check.due("15 as it was, " + call, x.at(0, 1), 15);
        }
    }

    /** ".. and neither is place()" */
    private static void placesAreNoDeeds() {
        CutDistances x = new CutDistances();
        x.put(0, 1, 15);
        check.due("a place", x.place(1, 9, 9), 0);
        check.due("is no deed", x.count(3), 1);
        check.due("is not taken back", x.back(), 0);
        check.due("its numbers stay", x.place(1, 9, 9), 909);
    }

    /** "A POINT that comes has its PLACE at 0, 0, also if it had another one before." */
    private static void comingPlacesByRead() {
        String[] texts = {
            "2;5", "3;1;2,3", "4;1;2,3;4,5,6", "5;1;1,1;1,1,1;1,1,1,1", "6;1;1,1;1,1,1;1,1,1,1;1,1,1,1,1",
        };
        for (int fewer = 2; fewer <= 6; fewer++) {
            CutDistances x = Benches.ofPoints(6);
            for (int point = 0; point < 6; point++) {
                x.place(point, 50 + point, 60 + point);
            }
            check.due("so many stay", Texts.read(x, texts[fewer - 2]), fewer);
            check.due("all are there again", Texts.read(x, "6;9;9,9;9,9,9;9,9,9,9;9,9,9,9,9"), 6);
            x.town();
            check.due("by town, too", x.at(0, 5), fewer < 6 ? 110 : 10);
            for (int point = 0; point < 6; point++) {
                int due = point < fewer ? 100 * (50 + point) + 60 + point : 0;
                check.due("place of " + point + " behind " + fewer + " points", x.place(point, 1, 1), due);
            }
        }
    }

    private static void comingPlacesByBack() {
        CutDistances x = Benches.ofPoints(6);
        for (int point = 0; point < 6; point++) {
            x.place(point, 50 + point, 60 + point);
        }
        Texts.read(x, "3;1;2,3");
        x.place(2, 7, 8);
        check.due("taken back", x.back(), 0);
        check.due("six points again", x.count(0), 6);
        int[] due = {5060, 5161, 708, 0, 0, 0};
        for (int point = 0; point < 6; point++) {
            check.due("place of " + point, x.place(point, 50 + point, 60 + point), due[point]);
        }
        x.points(2);
        Texts.read(x, "4;1;2,3;4,5,6");
        x.place(3, 5, 5);
        check.due("four points leave", x.back(), 0);
        check.due("no place of POINT 3", x.place(3, 1, 1), BAD);
        Texts.read(x, "4;1;2,3;4,5,6");
        check.due("a point that came, left and comes", x.place(3, 1, 1), 0);
    }

    /** "(PLACES of POINTS that stay stay)", "PLACES are 0" behind points(), as THE IMAGE has them behind undo() */
    private static void stayingPlaces() {
        CutDistances x = new CutDistances();
        x.place(0, 1, 2);
        x.place(3, 3, 4);
        Texts.read(x, "4;1;1,1;1,1,1");
        check.due("the same N", x.place(3, 3, 4), 304);
        Texts.read(x, "5;1;1,1;1,1,1;1,1,1,1");
        check.due("more points", x.place(3, 3, 4), 304);
        x.back();
        check.due("fewer again, by back", x.place(3, 3, 4), 304);
        x.image();
        Texts.read(x, "2;1");
        x.undo();
        check.due("by undo a place of one that had left", x.place(3, 3, 4), 304);
        check.due("a fault leaves them", Texts.read(x, "2;1;"), -1003);
        check.due("there", x.place(3, 3, 4), 304);
        x.points(4);
        check.due("points takes them away", x.place(3, 3, 4), 0);
        check.due("all of them", x.place(0, 3, 4), 0);
    }

    /** "A TRY can be one with the number 0": all DISTANCES 0 take a TRY for each CUT. */
    private static void triesWith0() {
        for (int n = 2; n <= 6; n++) {
            CutDistances x = Benches.ofPoints(n);
            int cuts = (1 << (n - 1)) - 1;
            check.due("tries of all 0, " + n + " points", x.sum(9999, -1), cuts);
            check.due("just as many, " + n + " points", x.sum(cuts, -1), cuts);
            check.due("its numbers, " + n + " points", x.sum(cuts, 0), 0);
            check.due("one try less, " + n + " points", x.sum(cuts - 1, -1), n == 2 ? BAD : SPENT);
        }
    }

    /** "tries are enough if the last one finds the SUM": of these DISTANCES the 9999th, the 10000th does. */
    private static void lastTryFindsTheSum() {
        CutDistances x = Benches.ofText("4;24;25,11;2,26,27");
        int[] due = {32, 5, 6, 19, 2, 0, 0, 0};
        for (int s = 0; s < due.length; s++) {
            check.due("found by the 9999th try, s " + s, x.sum(9999, s), due[s]);
            check.due("a try more is needed, s " + s, x.sum(9998, s), SPENT);
        }
        check.due("tries made", x.sum(9999, -1), 9999);
        check.due("tries made, with one less", x.sum(9998, -1), SPENT);
        CutDistances y = Benches.ofText("4;1;30,29;27,26,17");
        for (int s = -1; s < 8; s++) {
            check.due("the 10000th would find it, s " + s, y.sum(9999, s), SPENT);
        }
    }

    /** "sum() is NOT where there is no SUM, whatever is asked": of the last two by the 9999th, by the 10000th TRY. */
    private static void notWhateverIsAsked() {
        String[] texts = {"3;1;1,1", "3;0;0,1", "4;2;2,2;2,2,1", "5;2;1,1;1,1,2;1,1,2,2", "3;21;46,46", "3;19;69,49"};
        for (String text : texts) {
            CutDistances x = Benches.ofText(text);
            int due = text.equals("3;19;69,49") ? SPENT : NOT;
            for (int s = -1; s < 1 << (x.count(0) - 1); s++) {
                check.due("s " + s + " of " + text, x.sum(9999, s), due);
            }
            check.due("no such cut of " + text, x.sum(9999, 1 << (x.count(0) - 1)), BAD);
        }
        CutDistances even = Benches.ofText("5;2;1,1;1,1,2;1,1,2,2");
        check.due("not by an odd round", even.rounds(0), 0);
        check.due("nor by a broken triangle", even.triangles(0), 0);
        check.due("nor by a wall of three points, but by one of five", even.walls(1, 1), 1);
        check.due("the 9999th try is needed", Benches.ofText("3;21;46,46").sum(9998, 0), SPENT);
        CutDistances x = Benches.ofText("3;0;0,1");
        check.due("by the third try", x.sum(3, 0), NOT);
        check.due("a try more is needed", x.sum(2, 0), SPENT);
        check.due("and more", x.sum(1, -1), SPENT);
    }

    /** "LEFT is the least of all PAIRS that a CUT SEPARATES." */
    private static void leftIsTheLeast() {
        // CUT 1 SEPARATES (0, 1), (1, 2), (1, 3): each in turn is the least one, 2, and the others are 5.
        String[] texts = {"4;2;0,5;0,5,0", "4;5;0,2;0,5,0", "4;5;0,5;0,2,0"};
        for (String text : texts) {
            CutDistances x = Benches.ofText(text);
            // CUT 1 gets 2, 1 and 0, and behind each of these the other six get 0: they SEPARATE a PAIR of 0.
            check.due("just enough of " + text, x.sum(3 * 7, 0), NOT);
            check.due("one less of " + text, x.sum(3 * 7 - 1, 0), SPENT);
        }
        CutDistances x = Benches.ofPoints(4);
        x.cut(1, 2);
        check.due("the first try, with 2, is right", x.sum(7, 1), 2);
        check.due("seven tries", x.sum(9999, -1), 7);
    }

    /** "figures can have 0 ahead, a fourth figure is the FAULT" */
    private static void figuresAhead() {
        String[] texts = {"2;005", "2;05", "3;000;001,010"};
        String[] spelled = {"2;5", "2;5", "3;0;1,10"};
        for (int k = 0; k < texts.length; k++) {
            CutDistances x = Benches.ofText(texts[k]);
            check.same("read of " + texts[k], Texts.spelled(x), spelled[k]);
        }
        CutDistances x = new CutDistances();
        check.due("a fourth figure", Texts.read(x, "2;1234"), -1005);
        check.due("also behind 0", Texts.read(x, "2;0005"), -1005);
        check.due("also 0 itself", Texts.read(x, "2;0000"), -1005);
        check.due("in the middle", Texts.read(x, "3;1;2222,3"), -1007);
        check.due("the first of two", Texts.read(x, "3;1;22222,3"), -1007);
        check.due("0 ahead of N", Texts.read(x, "02;5"), -1000);
    }

    /** ".. and too few POINTS end too early" */
    private static void tooFewPoints() {
        CutDistances x = new CutDistances();
        String[] texts = {"3;1", "4;1", "4;1;2,3", "6;1;2,3;4,5,6;7,8,9,10", "2"};
        for (String text : texts) {
            check.due("too few of " + text, Texts.read(x, text), -1000 - text.length());
        }
        check.due("too few DISTANCES of one", Texts.read(x, "4;1;2;3,4,5"), -1005);
        check.due("too many of one", Texts.read(x, "4;1,2;2,3;3,4,5"), -1003);
        check.due("too many POINTS", Texts.read(x, "2;1;2,3"), -1003);
        check.due("none of all this is read", x.count(2), 0);
    }

    /** "WALLS are numbered by their rows of numbers from the least on, not by their width." */
    private static void wallsNotByWidth() {
        CutDistances x = Benches.ofPoints(2);
        for (int k = 0; k < 6; k++) {
            check.due("b(0) of wall " + k, x.wall(3, k, 0) - 3, k - 2);
        }
        int[] width = {3, 2, 1, 1, 2, 3};
        for (int k = 0; k < 6; k++) {
            check.due("width of wall " + k, x.holdWall(0, 3, k), width[k]);
        }
    }

    /** "The greatest VALUE need not be above 0." */
    private static void greatestValueBelow0() {
        CutDistances x = Benches.ofPoints(2);
        x.put(0, 1, 1);
        check.due("none is broken", x.walls(3, 1), 0);
        check.due("the greatest is 0", x.walls(3, 4), 2);
        check.due("of width 1", x.walls(1, 4), 0);
        CutDistances y = Benches.ofPoints(6);
        for (int s = 1; s < 32; s++) {
            y.cut(s, 3);
        }
        check.due("none of a sum of cuts is broken", y.walls(3, 1), 0);
        check.due("no first one", y.walls(3, 3), NOT);
        int first = y.walls(3, 4);
        y.holdWall(0, 3, first);
        check.due("the greatest value", y.value(0), 0);
        check.due("one POINT has 1 in it, the others 0", y.taken(0, 1), 1);
    }

    /** "RANK is by fractions." By twos only 3 of the 7 CUTS of four POINTS would be independent, not 6. */
    private static void rankByFractions() {
        check.due("rank of all cuts of three points", withWall(1, 0, 0).roots(0, 1), 3);
        check.due("rank of all cuts of four points", withWall(1, 0, 0, 0).roots(0, 1), 6);
        check.due("rank of all cuts of five points", withWall(0, 0, 1, 0, 0).roots(0, 1), 10);
        check.due("rank of all cuts of six points", withWall(0, 0, 0, 0, 0, 1).roots(0, 1), 15);
        check.due("rank of two cuts", withWall(1, 1, -1).roots(0, 1), 2);
    }

    /** "A CUT without numbers leaves a WALL as it is: 0." */
    private static void cutWithoutNumbers() {
        CutDistances x = withWall(1, 0, 0, 0);
        for (int s = 1; s < 8; s++) {
            check.due("switched by " + s, x.switched(0, s), 0);
        }
        CutDistances y = withWall(2, 0, -1, 0);
        int[] due = {0, STATE, STATE, 0, 0, STATE, STATE};
        for (int s = 1; s < 8; s++) {
            check.due("switched by " + s, y.switched(0, s), due[s - 1]);
            check.due("b(2) stays", y.number(0, 2), -1);
        }
        check.due("numbers that are 0 together do turn", withWall(1, 1, -1).switched(0, 3), 1);
    }

    /** "The gauge of no POINT and of one is 0 but ACROSS." */
    private static void gaugesOfNoneAndOne() {
        for (int n = 2; n <= 6; n++) {
            CutDistances x = Benches.ofPoints(n);
            x.cut(1, 7);
            for (int kind : new int[] {0, 1, 3, 4}) {
                check.due("no point, kind " + kind, x.gauge(kind, 0), 0);
                for (int point = 0; point < n; point++) {
                    check.due("one point, kind " + kind, x.gauge(kind, 1 << point), 0);
                }
            }
            check.due("across of no point", x.gauge(2, 0), 0);
            for (int point = 0; point < n; point++) {
                check.due("across of one point", x.gauge(2, 1 << point), point == 1 ? 7L * (n - 1) : 7);
            }
        }
    }

    /** "Rows of POINTS can be straight": from the one to the other at once, which may be the least sum. */
    private static void straightRows() {
        CutDistances x = Benches.ofText("3;5;5,10");
        check.due("as long as by a stop", x.paths(), 0);
        x.put(1, 2, 9);
        check.due("shorter than by a stop", x.paths(), 0);
        x.put(1, 2, 11);
        check.due("longer than by a stop", x.paths(), 1);
        check.due("the row by the stop", x.at(1, 2), 10);
        CutDistances y = Benches.ofPoints(2);
        y.put(0, 1, 999);
        check.due("of two points there is no other", y.paths(), 0);
        check.due("it stays", y.at(0, 1), 999);
        CutDistances z = Benches.ofText("6;1;999,1;999,999,1;999,999,999,1;999,999,999,999,1");
        check.due("one row of all POINTS", z.paths(), 10);
        check.due("from end to end", z.at(5, 0), 5);
    }

    /** "A CUT by 0 is no DEED." */
    private static void cutBy0() {
        for (int s = 1; s < 8; s++) {
            CutDistances x = Benches.ofText("4;0;999,0;999,0,5");
            check.due("all together", x.cut(s, 0), 999 + 999 + 5);
            check.due("no deed", x.count(3), 1);
        }
    }

    /** "Bytes that cannot stand in a text are a FAULT only when it is read." */
    private static void bytesOnlyWhenRead() {
        CutDistances x = new CutDistances();
        check.due("any bytes come", x.feed(-1, 4), 4);
        check.due("and more", x.feed(Integer.MIN_VALUE, 4), 8);
        check.due("their fault", x.read(), -1000);
        check.due("the tape is empty then", x.count(4), 0);
        Texts.feed(x, "2;");
        check.due("a byte that cannot stand there", x.feed(255, 1), 3);
        check.due("its fault", x.read(), -1002);
        check.due("read with nothing", x.read(), -1000);
        x.feed(-1, 4);
        x.wipe();
        check.due("wiped bytes are none", Texts.read(x, "2;7"), 2);
    }

    /** "All memory is the class's own": two objects have nothing in common. */
    private static void memoryOfItsOwn() {
        CutDistances x = Benches.full(5);
        CutDistances y = new CutDistances();
        check.same("another object is new", Whole.of(y), Whole.of(new CutDistances()));
        check.same("and leaves the one as it was", Whole.of(x), Whole.of(Benches.full(5)));
    }
}
