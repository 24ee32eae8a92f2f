/** The sentences of "Terms" on SUMS, GAUGES, DEEDS, TOWNS, TEXTS, HOLDERS, THE IMAGE, at the bounds that they name. */
final class MoreTermsTest {
    private static final int NOT = -2, STATE = -5;
    private static final Check check = new Check();

    public static void main(String[] args) {
        for (int n = 2; n <= 6; n++) {
            townOf(n);
            spelledOf(n);
            judgedOf(n);
        }
        sumTellsAllDistances();
        firstSumEnds();
        gaugesUnderOthers();
        eachDeedTakenBack();
        eightDeeds();
        figuresOfAText();
        eachEndOfAText();
        eachByteOfAText();
        holdersByThemselves();
        rowsOfAnyLength();
        imageKeeps();
        check.end();
    }

    /** "DISTANCE of any two POINTS is the numbers of all CUTS that SEPARATE them, together" */
    private static void sumTellsAllDistances() {
        String[] texts = {
            "2;0", "2;999", "3;30;30,40", "3;0;0,0", "4;2;2,2;2,2,2", "4;24;25,11;2,26,27", "5;4;4,0;4,0,0;4,0,0,0",
            "5;2;4,2;4,4,2;2,4,4,2", "6;0;0,0;0,0,0;0,0,0,0;7,7,7,7,7",
        };
        for (String text : texts) {
            CutDistances x = Benches.ofText(text);
            int n = x.count(0);
            int[] numbers = new int[1 << (n - 1)];
            int together = 0;
            for (int s = 1; s < numbers.length; s++) {
                numbers[s] = x.sum(9999, s);
                check.holds("0 or more, cut " + s + " of " + text, numbers[s] >= 0);
                together += numbers[s];
            }
            check.due("together, " + text, x.sum(9999, 0), together);
            for (int i = 0; i < n; i++) {
                for (int j = i + 1; j < n; j++) {
                    int far = 0;
                    for (int s = 1; s < numbers.length; s++) {
                        far += Benches.isIn(s, i) != Benches.isIn(s, j) ? numbers[s] : 0;
                    }
                    check.due("sum of points " + i + ", " + j + " of " + text, far, x.at(i, j));
                }
            }
        }
    }

    /** "(It ends with the first SUM.)" All DISTANCES 2: the four CUTS of one POINT each; those of two come later. */
    private static void firstSumEnds() {
        CutDistances x = Benches.ofText("4;2;2,2;2,2,2");
        int[] due = {4, 1, 1, 0, 1, 0, 0, 1};
        for (int s = 0; s < due.length; s++) {
            check.due("the first of two sums, s " + s, x.sum(9999, s), due[s]);
        }
    }

    /** DOUBLED is under WITHIN, ACROSS under DOUBLED, LONGEST under WITHIN, SLACK under LONGEST. */
    private static void gaugesUnderOthers() {
        for (int set = 0; set < 64; set++) {
            CutDistances x = Benches.ofText("6;1;20,3;4,50,6;7,8,9,100;11,120,13,14,15");
            long within = 0;
            long across = 0;
            long longest = 0;
            for (int i = 0; i < 6; i++) {
                for (int j = i + 1; j < 6; j++) {
                    int inside = set / (1 << i) % 2 + set / (1 << j) % 2;
                    within += inside == 2 ? x.at(i, j) : 0;
                    across += inside == 1 ? x.at(i, j) : 0;
                    longest = inside == 2 && x.at(i, j) > longest ? x.at(i, j) : longest;
                }
            }
            check.due("within " + set, x.gauge(0, set), within);
            check.due("doubled " + set, x.gauge(1, set), within + within);
            check.due("across " + set, x.gauge(2, set), across - within - within);
            check.due("longest " + set, x.gauge(3, set), longest);
            check.due("slack " + set, x.gauge(4, set), within - longest);
        }
    }

    /** "what put(), cut(), paths(), town(), stretch() and read() do truly .. N and DISTANCES are as ahead of it" */
    private static void eachDeedTakenBack() {
        String[] deeds = {"put(0, 1, 8)", "cut(5, 3)", "paths()", "town()", "stretch(3)", "read()"};
        for (String deed : deeds) {
            CutDistances x = Benches.ofText("4;9;1,2;30,4,5");
            x.image();
            x.undo();
            x.place(1, 2, 3);
            Texts.feed(x, "3;1;2,4");
            check.due("none ahead of " + deed, x.count(3), 0);
            Calls.ask(x, deed);
            check.due("one behind " + deed, x.count(3), 1);
            check.holds("otherwise by " + deed, !Texts.spelled(x).equals("4;9;1,2;30,4,5"));
            check.due("back behind " + deed, x.back(), 0);
            check.same("taken back, " + deed, Texts.spelled(x), "4;9;1,2;30,4,5");
            check.due("only once, " + deed, x.back(), STATE);
        }
    }

    /** "the latest first, 8 at most (older ones no more)" */
    private static void eightDeeds() {
        for (int made = 7; made <= 17; made++) {
            CutDistances x = new CutDistances();
            for (int v = 1; v <= made; v++) {
                x.put(2, 3, v);
            }
            int can = made > 8 ? 8 : made;
            check.due("deeds of " + made, x.count(3), can);
            for (int k = 1; k <= can; k++) {
                check.due("still, of " + made, x.back(), can - k);
                check.due("the latest first, of " + made, x.at(2, 3), made - k);
            }
            check.due("no more of " + made, x.back(), STATE);
            check.due("stays, of " + made, x.at(2, 3), made - can);
        }
    }

    /** "x and y (0 .. 99 each; 0 at first ..); how far their x are apart, plus how far their y are" */
    private static void townOf(int n) {
        CutDistances x = Benches.ofPoints(n);
        x.cut(1, 5);
        check.due("all places 0 at first", x.town(), n - 1);
        check.due("all 0 then", x.count(2), 0);
        int last = n - 1;
        x.place(0, 99, 0);
        x.place(last, 0, 99);
        x.town();
        check.due("farthest of " + n, x.at(last, 0), 198);
        x.place(0, 0, 0);
        x.place(last, 99, 99);
        x.town();
        check.due("farthest from 0, 0", x.at(0, last), 198);
        x.place(last, 0, 99);
        x.town();
        check.due("y alone", x.at(0, last), 99);
        x.place(0, 99, 99);
        x.town();
        check.due("x alone", x.at(0, last), 99);
        x.place(last, 99, 99);
        x.town();
        check.due("the same place", x.at(0, last), 0);
    }

    /** "each 1 to 3 figures 0 .. 9" */
    private static void figuresOfAText() {
        String[] texts = {"2;0", "2;00", "2;000", "2;9", "2;09", "2;009", "2;99", "2;099", "2;999"};
        int[] due = {0, 0, 0, 9, 9, 9, 99, 99, 999};
        for (int k = 0; k < texts.length; k++) {
            CutDistances x = new CutDistances();
            check.due("read " + texts[k], Texts.read(x, texts[k]), 2);
            check.due("distance of " + texts[k], x.at(0, 1), due[k]);
            check.due("a fault of it with a figure more",
                Texts.read(x, texts[k].substring(0, 2) + "000" + texts[k].substring(2)), -1005);
        }
        check.due("no figure", Texts.read(new CutDistances(), "2;"), -1002);
        check.due("no figure ahead of ,", Texts.read(new CutDistances(), "3;1;,1"), -1004);
        check.due("a minus", Texts.read(new CutDistances(), "2;-1"), -1002);
        check.due("a space ahead", Texts.read(new CutDistances(), "2; 1"), -1002);
    }

    /** "(how many bytes there are, if it ends too early; a byte beyond all that is told so, too)" */
    private static void eachEndOfAText() {
        String[] texts = {
            "2;7", "3;1;22,333", "4;1;2,3;44,55,6", "5;1;2,3;4,5,6;7,8,9,10", "6;1;2,3;4,5,6;7,8,9,0;1,2,3,4,999",
        };
        for (String text : texts) {
            for (int size = 0; size < text.length(); size++) {
                // Cut off within its last figures, it is a TEXT still.
                boolean whole = size > text.lastIndexOf(',') + 1 && size > 2;
                int due = whole ? text.charAt(0) - '0' : -1000 - size;
                check.due(text + " cut off at " + size, Texts.read(new CutDistances(), text.substring(0, size)), due);
            }
            check.due(text + " whole", Texts.read(new CutDistances(), text), text.charAt(0) - '0');
            for (char more : new char[] {';', ',', ' ', 'x', (char) 0, (char) 255}) {
                check.due(text + " and one more byte, " + (int) more,
                    Texts.read(new CutDistances(), text + more), -1000 - text.length());
            }
        }
        String longest = "6;999;999,999;999,999,999;999,999,999,999;999,999,999,999,999";
        StringBuilder full = new StringBuilder(longest);
        while (full.length() < 80) {
            full.append('0');
            check.due(full + ": beyond it", Texts.read(new CutDistances(), full.toString()), -1061);
        }
    }

    /** "FAULT: the place (from 0) of the first byte with which no such TEXT goes on": each byte at each place. */
    private static void eachByteOfAText() {
        String[] texts = {"2;12", "3;1;22,333", "4;1;02,3;444,5,60"};
        for (String text : texts) {
            for (int spot = 0; spot < text.length(); spot++) {
                for (int b = 0; b < 256; b++) {
                    String other = text.substring(0, spot) + (char) b + text.substring(spot + 1);
                    Model model = new Model();
                    Benches.tape(model, other);
                    check.due(text + " with " + b + " at " + spot, Texts.read(new CutDistances(), other), model.read());
                }
            }
        }
    }

    /** "SPELLED: N and DISTANCES as such a TEXT, without 0 ahead of figures." */
    private static void spelledOf(int n) {
        int[] ends = {0, 9, 10, 99, 100, 999};
        for (int v : ends) {
            CutDistances x = Benches.ofPoints(n);
            StringBuilder due = new StringBuilder().append(n);
            for (int i = 1; i < n; i++) {
                for (int j = 0; j < i; j++) {
                    x.put(i, j, v);
                    due.append(j == 0 ? ';' : ',').append(v);
                }
            }
            check.due("how many bytes, " + v + " of " + n, x.spell(-1), due.length());
            check.same("spelled, " + v + " of " + n, Texts.spelled(x), due.toString());
            check.due("no more bytes, " + v + " of " + n, x.spell(due.length()), NOT);
            check.due("read again, " + v + " of " + n, Texts.read(x, due.toString()), n);
            check.same("the same, " + v + " of " + n, Texts.spelled(x), due.toString());
        }
    }

    /** "HOLDERS 0 .. 5 hold nothing (at first), DISTANCES as they were (with N), a WALL, or a ROW" */
    private static void holdersByThemselves() {
        String[] calls = {"lose(?)", "hold(?)", "holdWall(?, 2, 3)", "row(?, 7)"};
        for (int h = 0; h < 6; h++) {
            for (int kind = 0; kind < 4; kind++) {
                CutDistances x = new CutDistances();
                Calls.ask(x, calls[kind].replace("?", "" + h));
                for (int other = 0; other < 6; other++) {
                    String what = "holder " + other + " behind kind " + kind + " in " + h;
                    check.due(what, x.lose(other), other == h ? kind : 0);
                    check.due("nothing then", x.lose(other), 0);
                }
            }
        }
        for (int first = 0; first < 4; first++) {
            for (int kind = 0; kind < 4; kind++) {
                CutDistances x = new CutDistances();
                Calls.ask(x, calls[first].replace("?", "3"));
                Calls.ask(x, calls[kind].replace("?", "3"));
                check.due("kind " + kind + " over kind " + first, x.lose(3), kind);
            }
        }
    }

    /** "a ROW of 0 .. 20 ints, 0 at first" */
    private static void rowsOfAnyLength() {
        for (int n = 0; n <= 20; n++) {
            CutDistances x = new CutDistances();
            check.due("row of " + n, x.row(4, n), n);
            for (int i = 0; i < n; i++) {
                check.due("0 at first, " + i + " of " + n, x.number(4, i), 0);
                check.due("set " + i + " of " + n, x.set(4, i, greatInt(i)), 1);
            }
            for (int i = 0; i < n; i++) {
                check.due("number " + i + " of " + n, x.number(4, i), greatInt(i));
            }
            check.due("no more numbers than " + n, x.number(4, n), Long.MIN_VALUE);
            check.due("none to set beyond " + n, x.set(4, n, 1), -13);
            check.due("none at -1", x.set(4, -1, 1), -13);
        }
    }

    private static int greatInt(int i) {
        return i % 2 == 0 ? Integer.MIN_VALUE + i : Integer.MAX_VALUE - i;
    }

    /** "the first PAIR (from 0) that is otherwise (also one of which the ROW has no number); how many PAIRS ..; NOT" */
    private static void judgedOf(int n) {
        int pairs = n * (n - 1) / 2;
        for (int size = 0; size <= 20; size++) {
            CutDistances x = Benches.ofPoints(n);
            x.row(0, size);
            for (int i = 0, p = 0; i < n; i++) {
                for (int j = i + 1; j < n; j++, p++) {
                    x.put(i, j, 900 + p);
                    x.set(0, p, 900 + p);
                }
            }
            int due = size == pairs ? NOT : size < pairs ? size : pairs;
            check.due("judged row of " + size + " and " + n + " points", x.judge(0), due);
            for (int p = 0; p < pairs && p < size; p++) {
                int right = 900 + p;
                for (int wrong : new int[] {right - 1, right + 1, -right, Integer.MIN_VALUE, right + (1 << 16)}) {
                    x.set(0, p, wrong);
                    check.due("otherwise at " + p + " of " + size + " and " + n + " points", x.judge(0), p);
                }
                x.set(0, p, right);
            }
        }
    }

    /** "THE IMAGE keeps N, DISTANCES, PLACES (not DEEDS, THE TAPE, HOLDERS)." */
    private static void imageKeeps() {
        for (int kept = 2; kept <= 6; kept++) {
            for (int now = 2; now <= 6; now++) {
                CutDistances x = Benches.ofPoints(kept);
                x.put(0, kept - 1, 40 + kept);
                x.place(kept - 1, 1, kept);
                check.due("kept of " + kept, x.image(), kept);
                x.points(now);
                x.put(0, 1, 5);
                x.place(now - 1, 9, 9);
                Texts.feed(x, "2;");
                x.hold(now - 1);
                check.due("back to " + kept + " from " + now, x.undo(), kept);
                check.due("its N", x.count(0), kept);
                check.due("its distances", x.count(2), 40 + kept);
                check.due("its distance", x.at(kept - 1, 0), 40 + kept);
                check.due("its place", x.place(kept - 1, 0, 0), 100 + kept);
                check.due("and no other", x.place(0, 0, 0), 0);
                check.due("no deeds", x.count(3), 0);
                check.due("the tape stays", x.count(4), 2);
                check.due("holders stay", x.taken(now - 1, 2), now);
            }
        }
    }
}
