/** Terms 2, what a run takes and lets out, and the FARE. */
public final class EdgeTerms2Taking {
    public static void main(String[] args) {
        personsByTheirMinutes();
        whileSeatsAreFree();
        thingsThatGoFarthest();
        whileRoomIsFree();
        seatsAndRoomAreNotTheSame();
        thoseThatWaitByNow();
        whileItStands();
        thatAreThereAndGoItsWay();
        allLoadsForItGetOut();
        gettingOutFreesSeats();
        byNumbersOfTheRuns();
        fares();
        paidAsTheyGetIn();
        Check.end();
    }

    private static void in(PostBus x, int... states) {
        for (int load = 0; load < states.length; load++) {
            Check.lies(x, load, states[load]);
        }
    }

    private static void personsByTheirMinutes() {
        Check.sentence("persons by their minutes, of one minute by numbers, while SEATS are free");
        PostBus x = Check.line("p", 5);
        x.run(true, 4, 2, 0);
        x.load(0, 0, 1, 3);
        x.load(0, 0, 1, 2);
        x.load(0, 0, 1, 2);
        x.load(0, 0, 1, 2);
        x.minutes(4);
        in(x, 0, 1, 1, 0);
        x = Check.line("p", 5);
        x.run(true, 4, 3, 0);
        x.load(0, 0, 1, 4);
        x.load(0, 0, 1, 3);
        x.load(0, 0, 1, 4);
        x.load(0, 0, 1, 0);
        x.minutes(4);
        in(x, 1, 1, 0, 1);
    }

    private static void whileSeatsAreFree() {
        Check.sentence("while SEATS are free");
        for (int persons = 0; persons <= 3; persons++) {
            PostBus x = Check.line("p", 5);
            x.run(true, 1, 2, 0);
            for (int k = 0; k < persons; k++) {
                x.load(0, 0, 1, 0);
            }
            x.minutes(1);
            Check.look(x, 0, 1, 0, 0, Math.min(2, persons), 0);
            Check.due("wait", x.count(6), Math.max(0, persons - 2));
        }
    }

    private static void thingsThatGoFarthest() {
        Check.sentence("then letters and cans, those that go farthest first, of as far by numbers");
        PostBus x = Check.line("ppp", 1, 1, 1);
        x.run(false, 1, 1, 3);
        x.load(1, 3, 2, 0);
        x.load(2, 3, 1, 1);
        x.load(1, 3, 1, 0);
        x.load(2, 3, 0, 1);
        x.load(1, 3, 1, 0);
        x.load(1, 2, 3, 0);
        x.minutes(1);
        in(x, 0, 1, 1, 1, 0, 0);
        x.minutes(9);
        in(x, 0, 2, 2, 2, 0, 0);
        Check.lies(x, 1, 2, 0, 5, 1);
        Check.lies(x, 3, 2, 0, 7, 2);
    }

    private static void whileRoomIsFree() {
        Check.sentence("while ROOM is free");
        for (int things = 0; things <= 3; things++) {
            PostBus x = Check.line("p", 5);
            x.run(true, 1, 1, 2);
            for (int k = 0; k < things; k++) {
                x.load(1 + k % 2, 0, 1, 0);
            }
            x.minutes(1);
            Check.look(x, 0, 1, 0, 0, 0, Math.min(2, things));
        }
        PostBus x = Check.line("p", 5);
        x.run(true, 1, 1, 0);
        x.load(1, 0, 1, 0);
        x.load(2, 0, 1, 0);
        x.minutes(1);
        in(x, 0, 0);
    }

    private static void seatsAndRoomAreNotTheSame() {
        Check.sentence("while SEATS are free; then letters and cans, while ROOM is free");
        PostBus x = Check.line("p", 5);
        x.run(true, 1, 1, 2);
        for (int k = 0; k < 9; k++) {
            x.load(k % 3, 0, 1, 0);
        }
        x.minutes(1);
        in(x, 1, 1, 1, 0, 0, 0, 0, 0, 0);
    }

    private static void thoseThatWaitByNow() {
        Check.sentence("the LOADS that wait there by now");
        PostBus x = Check.line("p", 5);
        x.run(true, 3, 5, 5);
        for (int minute = 2; minute <= 5; minute++) {
            x.load(0, 0, 1, minute);
            x.load(1, 0, 1, minute);
        }
        x.minutes(3);
        in(x, 1, 1, 1, 1, 0, 0, 0, 0);
        x.minutes(1);
        in(x, 1, 1, 1, 1, 1, 1, 0, 0);
        // It left in minute 4, once it had taken those of that minute.
        x.minutes(1);
        in(x, 1, 1, 1, 1, 1, 1, 0, 0);
        Check.due("wait", x.count(6), 2);
    }

    private static void whileItStands() {
        Check.sentence("each that stands: it takes");
        PostBus x = Check.line("p", 5);
        x.run(true, 1, 5, 5);
        x.snow(0, 1, 20);
        x.load(0, 0, 1, 7);
        x.load(2, 0, 1, 20);
        x.load(1, 0, 1, 21);
        x.load(1, 0, 1, 22);
        int[][] due = {{6, 0, 0}, {7, 1, 0}, {19, 1, 0}, {20, 1, 1}, {21, 1, 2}, {22, 1, 2}};
        for (int[] row : due) {
            Check.goTo(x, row[0]);
            Check.look(x, 0, row[0] < 21 ? 1 : 2, 0, row[0] < 21 ? 0 : 26 - row[0], row[1], row[2]);
        }
    }

    private static void thatAreThereAndGoItsWay() {
        Check.sentence("the LOADS that are there and go its way");
        for (int up = 0; up < 2; up++) {
            PostBus x = Check.line("pp", 2, 2);
            x.run(up == 1, 1, 40, 40);
            for (int kind = 0; kind < 3; kind++) {
                for (int from = 0; from < 3; from++) {
                    x.load(kind, from, (from + 1) % 3, 0);
                    x.load(kind, from, (from + 2) % 3, 0);
                }
            }
            x.minutes(50);
            for (int load = 0; load < 18; load++) {
                int from = load / 2 % 3;
                int to = (from + 1 + load % 2) % 3;
                boolean itsWay = to > from == (up == 1);
                int out = itsWay ? 1 + 3 * Math.abs(to - (up == 1 ? 0 : 2)) : 0;
                Check.lies(x, load, itsWay ? 2 : 0, itsWay ? 0 : -1, out);
            }
        }
    }

    private static void allLoadsForItGetOut() {
        Check.sentence("it stands at the next PLACE: all LOADS for it get out there; at its end it is OVER");
        PostBus x = Check.line("pp", 2, 2);
        x.run(true, 1, 40, 40);
        for (int k = 0; k < 80; k++) {
            x.load(k % 2 * (1 + k / 2 % 2), 0, 1 + k / 4 % 2, 0);
        }
        x.minutes(3);
        Check.look(x, 0, 2, 0, 1, 40, 40);
        x.minutes(1);
        Check.look(x, 0, 1, 1, 0, 20, 20);
        Check.due("got out", x.count(5), 40);
        x.minutes(3);
        Check.look(x, 0, 3, 2, 0, 0, 0);
        Check.due("got out", x.count(5), 80);
    }

    private static void gettingOutFreesSeats() {
        Check.sentence("(1) all LOADS for it get out there, (3) it takes, while SEATS, ROOM are free");
        PostBus x = Check.line("pp", 2, 2);
        x.run(true, 1, 1, 1);
        x.load(0, 0, 1, 0);
        x.load(0, 1, 2, 0);
        x.load(2, 0, 1, 0);
        x.load(1, 1, 2, 0);
        x.load(0, 1, 0, 0);
        x.minutes(4);
        in(x, 2, 1, 2, 1, 0);
        Check.look(x, 0, 1, 1, 0, 1, 1, 8);
        x.minutes(3);
        Check.look(x, 0, 3, 2, 0, 0, 0, 8, 7);
        Check.lies(x, 1, 2, 0, 7, 3);
        Check.lies(x, 3, 2, 0, 7, 1);
    }

    private static void byNumbersOfTheRuns() {
        Check.sentence("(3) By numbers: each that stands: it takes");
        PostBus x = Check.line("pp", 2, 2);
        x.run(true, 1, 1, 1);
        x.run(true, 1, 1, 1);
        x.load(0, 0, 1, 0);
        x.load(0, 0, 1, 0);
        x.load(0, 0, 1, 1);
        x.minutes(1);
        Check.lies(x, 0, 1, 0);
        Check.lies(x, 1, 1, 1);
        Check.lies(x, 2, 0, -1);
        x.minutes(3);
        // Each lets out its own alone, where it stands.
        Check.lies(x, 0, 2, 0, 4, 3);
        Check.lies(x, 1, 1, 1, 0, 3);
        x.minutes(2);
        Check.lies(x, 1, 2, 1, 6, 3);
    }

    private static void fares() {
        Check.sentence("a person pays 2 and 1 for each STRETCH; letters 1, a can 1 for each two, cut upwards");
        int[] person = {3, 4, 5, 6, 7, 8, 9, 10, 11};
        int[] milk = {1, 1, 2, 2, 3, 3, 4, 4, 5};
        for (int up = 0; up < 2; up++) {
            PostBus x = Check.line("ppppppppp", 1, 1, 1, 1, 1, 1, 1, 1, 1);
            x.run(up == 1, 1, 40, 40);
            int first = up == 1 ? 0 : 9;
            for (int k = 0; k < 9; k++) {
                int to = up == 1 ? k + 1 : 8 - k;
                x.load(0, first, to, 0);
                x.load(1, first, to, 0);
                x.load(2, first, to, 0);
            }
            x.minutes(1);
            for (int k = 0; k < 9; k++) {
                Check.lies(x, 3 * k, 1, 0, 0, person[k]);
                Check.lies(x, 3 * k + 1, 1, 0, 0, 1);
                Check.lies(x, 3 * k + 2, 1, 0, 0, milk[k]);
            }
            Check.look(x, 0, 1, first, 0, 9, 18, 63 + 9 + 25);
        }
    }

    private static void paidAsTheyGetIn() {
        Check.sentence("paid as they get in. A run's COINS: the sum");
        PostBus x = Check.line("ppp", 1, 1, 1);
        x.run(true, 1, 5, 5);
        x.load(0, 0, 1, 0);
        x.load(2, 1, 3, 0);
        x.load(0, 2, 3, 5);
        int[] coins = {0, 3, 3, 4, 4, 7, 7, 7, 7};
        for (int minute = 0; minute < coins.length; minute++) {
            Check.due("minute " + minute + ": COINS", x.look(0, 5), coins[minute]);
            Check.due("minute " + minute + ": COINS of all", x.count(7), coins[minute]);
            x.minutes(1);
        }
    }
}
