/** Promise 6, snow: on a STRETCH, low from 1, high from low, twenty rows. */
public final class Edge06Snow {
    public static void main(String[] args) {
        noSuchStretch();
        lowBelowOne();
        highBelowLow();
        farNumbers();
        greatestMinutes();
        twentyRowsAreThere();
        refusedRowsShutNothing();
        firstAndLastMinuteOfARow();
        Check.end();
    }

    private static void noSuchStretch() {
        Check.sentence("false: no such STRETCH");
        PostBus x = new PostBus();
        Check.no("stretch 0 of none", x.snow(0, 1, 1));
        Check.no("stretch -1 of none", x.snow(-1, 1, 1));
        x.place(5, true);
        Check.yes("stretch 0 of one", x.snow(0, 1, 1));
        Check.no("stretch 1 of one", x.snow(1, 1, 1));
        Check.no("stretch -1", x.snow(-1, 1, 1));
        for (int k = 2; k < 10; k++) {
            x.place(5, true);
        }
        Check.yes("stretch 8 of nine", x.snow(8, 1, 1));
        Check.no("stretch 9 of nine", x.snow(9, 1, 1));
        x.minutes(1);
        Check.due("shut(0)", x.shut(0), 1);
        Check.due("shut(1)", x.shut(1), 0);
        Check.due("shut(8)", x.shut(8), 1);
    }

    private static void lowBelowOne() {
        Check.sentence("false: low below 1");
        PostBus x = Check.line("p", 5);
        Check.no("low 0", x.snow(0, 0, 5));
        Check.no("low and high 0", x.snow(0, 0, 0));
        Check.no("low -1", x.snow(0, -1, 5));
        Check.yes("low 1", x.snow(0, 1, 5));
    }

    private static void highBelowLow() {
        Check.sentence("false: high below low");
        PostBus x = Check.line("p", 5);
        Check.no("5 to 4", x.snow(0, 5, 4));
        Check.no("1 to 0", x.snow(0, 1, 0));
        Check.yes("5 to 5", x.snow(0, 5, 5));
        Check.yes("5 to 6", x.snow(0, 5, 6));
    }

    private static void farNumbers() {
        Check.sentence("false: no such STRETCH, low below 1, high below low");
        PostBus x = Check.line("pp", 5, 5);
        for (int far : Check.FAR) {
            Check.no("stretch " + far, x.snow(far, 1, 1));
        }
        Check.no("low MIN, high MAX", x.snow(0, Integer.MIN_VALUE, Integer.MAX_VALUE));
        Check.no("low MIN, high MIN", x.snow(0, Integer.MIN_VALUE, Integer.MIN_VALUE));
        Check.no("low 1, high MIN", x.snow(0, 1, Integer.MIN_VALUE));
        Check.no("low MAX, high MIN", x.snow(0, Integer.MAX_VALUE, Integer.MIN_VALUE));
        Check.no("low MAX, high MAX - 1", x.snow(0, Integer.MAX_VALUE, Integer.MAX_VALUE - 1));
        x.minutes(1);
        Check.due("nothing is shut", x.shut(0), 0);
    }

    private static void greatestMinutes() {
        Check.sentence("SNOW: true, from minute low to high");
        PostBus x = Check.line("pp", 5, 5);
        Check.yes("low MAX, high MAX", x.snow(0, Integer.MAX_VALUE, Integer.MAX_VALUE));
        Check.yes("low 601, high 601", x.snow(0, 601, 601));
        Check.yes("low 600, high MAX", x.snow(1, 600, Integer.MAX_VALUE));
        Check.goTo(x, 599);
        Check.due("shut(1) in minute 599", x.shut(1), 0);
        x.minutes(1);
        Check.due("shut(0) in minute 600", x.shut(0), 0);
        Check.due("shut(1) in minute 600", x.shut(1), 1);
    }

    private static void twentyRowsAreThere() {
        Check.sentence("false: 20 rows are there");
        PostBus x = Check.line("pp", 5, 5);
        for (int k = 0; k < 20; k++) {
            Check.no("a refused row is none", x.snow(0, 0, 5));
            Check.yes("row " + k, x.snow(0, 1 + 2 * k, 1 + 2 * k));
        }
        Check.no("a 21st row", x.snow(1, 1, 600));
        Check.no("a 21st row, the same again", x.snow(0, 1, 1));
        for (int minute = 1; minute <= 42; minute++) {
            x.minutes(1);
            Check.due("minute " + minute + ": shut(0)", x.shut(0), minute < 40 ? minute % 2 : 0);
            Check.due("minute " + minute + ": shut(1)", x.shut(1), 0);
        }
        Check.no("a 21st row, though all have gone by", x.snow(0, 50, 51));
    }

    private static void refusedRowsShutNothing() {
        Check.sentence("false");
        PostBus x = Check.line("pp", 5, 5);
        x.snow(0, 0, 9);
        x.snow(0, 9, 1);
        x.snow(2, 1, 9);
        x.snow(-1, 1, 9);
        x.run(true, 1, 1, 1);
        x.minutes(2);
        Check.due("shut(0)", x.shut(0), 0);
        Check.look(x, 0, 2, 0);
    }

    private static void firstAndLastMinuteOfARow() {
        Check.sentence("rows of a STRETCH from minute low to high");
        // The run may leave in minute 2, and leaves in the first minute in which no row shuts the STRETCH.
        int[][] rows = {{1, 1, 2}, {3, 9, 2}, {2, 2, 3}, {1, 2, 3}, {2, 9, 10}};
        for (int[] row : rows) {
            PostBus x = Check.line("p", 5);
            x.run(true, 1, 1, 1);
            Check.yes("snow", x.snow(0, row[0], row[1]));
            x.minutes(row[2] - 1);
            Check.look(x, 0, 1, 0);
            x.minutes(1);
            Check.look(x, 0, 2, 0);
        }
        PostBus x = Check.line("p", 5);
        x.run(true, 1, 1, 1);
        x.snow(0, 2, 3);
        x.snow(0, 4, 4);
        x.minutes(4);
        Check.look(x, 0, 1, 0);
        x.minutes(1);
        Check.look(x, 0, 2, 0);
    }
}
