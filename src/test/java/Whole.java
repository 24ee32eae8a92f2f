/** All that can be seen of an object, as a text. Looking takes much of it away, so it is the last that is asked. */
final class Whole {
    private static final long NO = Long.MIN_VALUE;

    private Whole() {
    }

    static String of(Object x) {
        StringBuilder text = new StringBuilder();
        distances(x, text);
        for (int what = 0; what < 5; what++) {
            text.append(" count ").append(Calls.ask(x, "count(" + what + ")"));
        }
        for (int h = 0; h < 6; h++) {
            holder(x, h, text);
        }
        places(x, text);
        text.append("\n  deeds");
        for (long more = Calls.ask(x, "back()"); more >= 0; more = Calls.ask(x, "back()")) {
            text.append(' ').append(more);
            distances(x, text);
        }
        text.append("\n  tape ").append(Calls.ask(x, "read()"));
        distances(x, text);
        text.append("\n  image ").append(Calls.ask(x, "undo()"));
        distances(x, text);
        places(x, text);
        return text.toString();
    }

    private static void distances(Object x, StringBuilder text) {
        long n = Calls.ask(x, "count(0)");
        text.append(" of ").append(n).append(':');
        for (int i = 0; i < n; i++) {
            for (int j = i + 1; j < n; j++) {
                text.append(' ').append(Calls.ask(x, "at(" + i + ", " + j + ")"));
            }
        }
    }

    private static void places(Object x, StringBuilder text) {
        text.append("\n  places");
        for (int i = 0; i < Calls.ask(x, "count(0)"); i++) {
            text.append(' ').append(Calls.ask(x, "place(" + i + ", 0, 0)"));
        }
    }

    private static void holder(Object x, int h, StringBuilder text) {
        text.append("\n  holder ").append(h).append(" of ").append(Calls.ask(x, "taken(" + h + ", 2)")).append(':');
        long v = Calls.ask(x, "number(" + h + ", 0)");
        for (int i = 1; v != NO; i++) {
            text.append(' ').append(v);
            v = Calls.ask(x, "number(" + h + ", " + i + ")");
        }
        text.append(" kind ").append(Calls.ask(x, "lose(" + h + ")"));
    }
}
