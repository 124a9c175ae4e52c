/** Promise 3, run: two PLACES, minutes above NOW to 400, SEATS 1 .. 40, ROOM 0 .. 40, twelve runs. */
public final class Edge03Run {
    public static void main(String[] args) {
        onePlaceOnly();
        aMinuteNotAboveNow();
        minutesAbove400();
        noMinuteIsLeftFrom400On();
        otherSeats();
        otherRoom();
        farNumbers();
        twelveAreThere();
        twelveThoughTheyAreOver();
        seatsAndRoomAreAsTold();
        Check.end();
    }

    private static void onePlaceOnly() {
        Check.sentence("NONE: one PLACE only");
        PostBus x = new PostBus();
        String before = Check.all(x);
        Check.none("run up", x.run(true, 1, 1, 0));
        Check.none("run down", x.run(false, 400, 40, 40));
        Check.unchanged(before, x);
        x.place(1, false);
        Check.due("with two PLACES", x.run(true, 1, 1, 0), 0);
    }

    private static void aMinuteNotAboveNow() {
        Check.sentence("NONE: a minute not above NOW");
        PostBus x = Check.line("p", 5);
        Check.none("minute 0 in minute 0", x.run(true, 0, 1, 0));
        Check.none("minute -1 in minute 0", x.run(true, -1, 1, 0));
        Check.due("minute 1 in minute 0", x.run(true, 1, 1, 0), 0);
        x.minutes(10);
        String before = Check.all(x);
        Check.none("NOW", x.run(true, 10, 1, 0));
        Check.none("below NOW", x.run(false, 9, 1, 0));
        Check.unchanged(before, x);
        Check.due("NOW + 1", x.run(false, 11, 1, 0), 1);
        Check.look(x, 1, 0, -1, 0, 0, 0, 0, 0, 11, 0, 0);
    }

    private static void minutesAbove400() {
        Check.sentence("NONE: other numbers (a minute 1 .. 400)");
        PostBus x = Check.line("p", 5);
        String before = Check.all(x);
        Check.none("minute 401", x.run(true, 401, 1, 0));
        Check.unchanged(before, x);
        Check.due("minute 400", x.run(true, 400, 1, 0), 0);
        Check.look(x, 0, 0, -1, 0, 0, 0, 0, 0, 400, 1, 0);
    }

    private static void noMinuteIsLeftFrom400On() {
        Check.sentence("NONE: a minute not above NOW, other numbers");
        PostBus x = Check.line("p", 5);
        Check.goTo(x, 399);
        Check.none("399 in minute 399", x.run(true, 399, 1, 0));
        Check.due("400 in minute 399", x.run(true, 400, 1, 0), 0);
        x.minutes(1);
        Check.none("400 in minute 400", x.run(true, 400, 1, 0));
        Check.none("401 in minute 400", x.run(true, 401, 1, 0));
        Check.goTo(x, 600);
        Check.none("601 in minute 600", x.run(true, 601, 1, 0));
        Check.none("1 in minute 600", x.run(true, 1, 1, 0));
        Check.due("count(1)", x.count(1), 1);
    }

    private static void otherSeats() {
        Check.sentence("NONE: other numbers (SEATS 1 .. 40)");
        PostBus x = Check.line("p", 5);
        String before = Check.all(x);
        Check.none("0 seats", x.run(true, 1, 0, 5));
        Check.none("41 seats", x.run(true, 1, 41, 5));
        Check.unchanged(before, x);
        Check.due("1 seat", x.run(true, 1, 1, 5), 0);
        Check.due("40 seats", x.run(true, 1, 40, 5), 1);
    }

    private static void otherRoom() {
        Check.sentence("NONE: other numbers (ROOM 0 .. 40)");
        PostBus x = Check.line("p", 5);
        String before = Check.all(x);
        Check.none("room -1", x.run(true, 1, 5, -1));
        Check.none("room 41", x.run(true, 1, 5, 41));
        Check.unchanged(before, x);
        Check.due("room 0", x.run(true, 1, 5, 0), 0);
        Check.due("room 40", x.run(true, 1, 5, 40), 1);
    }

    private static void farNumbers() {
        Check.sentence("NONE: other numbers");
        PostBus x = Check.line("p", 5);
        String before = Check.all(x);
        for (int far : Check.FAR) {
            Check.none("minute " + far, x.run(true, far, 1, 0));
            Check.none(far + " seats", x.run(true, 1, far, 0));
            Check.none("room " + far, x.run(true, 1, 1, far));
        }
        Check.unchanged(before, x);
    }

    private static void twelveAreThere() {
        Check.sentence("NONE: 12 are there");
        PostBus x = Check.line("p", 5);
        for (int k = 0; k < 12; k++) {
            Check.due("run " + k, x.run(k % 3 == 0, 1 + k, 1 + k, k), k);
        }
        String before = Check.all(x);
        Check.none("a 13th up", x.run(true, 1, 1, 1));
        Check.none("a 13th down", x.run(false, 400, 40, 40));
        Check.none("a 13th of other numbers", x.run(false, 401, 41, 41));
        Check.unchanged(before, x);
        Check.due("count(1)", x.count(1), 12);
        for (int k = 0; k < 12; k++) {
            Check.due("minute of run " + k, x.look(k, 7), 1 + k);
            Check.due("way of run " + k, x.look(k, 8), k % 3 == 0 ? 1 : 0);
        }
    }

    private static void twelveThoughTheyAreOver() {
        Check.sentence("NONE: 12 are there, OVER or not");
        PostBus x = Check.line("p", 1);
        for (int k = 0; k < 12; k++) {
            x.run(true, 1, 1, 0);
        }
        x.minutes(200);
        Check.due("all are OVER", x.count(4), 12);
        Check.none("a 13th", x.run(true, 300, 1, 0));
    }

    private static void seatsAndRoomAreAsTold() {
        Check.sentence("SEATS (1 .. 40) and ROOM (0 .. 40)");
        // Of each row: SEATS, ROOM, and how many persons and things wait, one more than fit where they are many.
        int[][] rows = {{1, 0, 2, 1}, {40, 1, 41, 39}, {1, 40, 39, 41}, {40, 40, 40, 40}};
        for (int[] row : rows) {
            PostBus x = Check.line("p", 5);
            x.run(true, 1, row[0], row[1]);
            for (int k = 0; k < row[2]; k++) {
                x.load(0, 0, 1, 0);
            }
            for (int k = 0; k < row[3]; k++) {
                x.load(1 + k % 2, 0, 1, 0);
            }
            x.minutes(5);
            Check.look(x, 0, 2, 0, 2, row[0], row[1]);
        }
    }
}
