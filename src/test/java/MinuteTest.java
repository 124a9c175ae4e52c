/** How minutes go by: promise 9, with the loads (14), the runs (13), snow (6) and the counts (16). */
public final class MinuteTest {
    public static void main(String[] args) {
        limits();
        oneRun();
        meetingInABlock();
        upFirstInABlock();
        blocksSideBySide();
        followingRuns();
        followingInPassingPlaces();
        narrowPlaceAhead();
        beginnersMayLeaveOnlyLater();
        peopleByMinute();
        thingsByDistance();
        fares();
        gettingOutFreesSeats();
        loadsThatComeLater();
        twoRunsWithLoads();
        snowOnTheWay();
        fullLine();
        Check.end();
    }

    private static void limits() {
        PostBus x = new PostBus();
        Check.due("minutes(-1)", x.minutes(-1), -1);
        Check.due("minutes(201)", x.minutes(201), -1);
        Check.due("minutes(MAX)", x.minutes(Integer.MAX_VALUE), -1);
        Check.due("minutes(200)", x.minutes(200), 200);
        Check.due("minutes(200)", x.minutes(200), 400);
        Check.due("minutes(199)", x.minutes(199), 599);
        Check.due("minutes(2) beyond 600", x.minutes(2), -1);
        Check.due("nothing went by", x.count(3), 599);
        Check.due("minutes(1)", x.minutes(1), 600);
        Check.due("minutes(0)", x.minutes(0), 600);
        Check.due("minutes(1) beyond 600", x.minutes(1), -1);
    }

    private static void oneRun() {
        PostBus x = Check.line("pp", 3, 1);
        x.run(false, 2, 1, 1);
        x.minutes(1);
        Check.look(x, 0, 0, -1, 0, 0, 0, 0, 0, 2, 0, 0);
        x.minutes(1);
        Check.look(x, 0, 1, 2, 0, 0, 0, 0, 0, 2, 0, 2);
        x.minutes(1);
        Check.look(x, 0, 2, 2, 1, 0, 0, 0, 0, 2, 0, 0);
        x.minutes(1);
        Check.look(x, 0, 1, 1, 0, 0, 0, 0, 0, 2, 0, 4);
        x.minutes(1);
        Check.look(x, 0, 2, 1, 3, 0, 0, 0, 0, 2, 0, 0);
        x.minutes(2);
        Check.look(x, 0, 2, 1, 1, 0, 0, 0, 0, 2, 0, 0);
        Check.due("none OVER", x.count(4), 0);
        x.minutes(1);
        Check.look(x, 0, 3, 0, 0, 0, 0, 0, 8, 2, 0, 0);
        Check.due("one OVER", x.count(4), 1);
    }

    private static void meetingInABlock() {
        // Places 1 and 2 are no passing places: the whole line is one BLOCK, and the lower number goes first.
        PostBus x = Check.line("--p", 2, 2, 2);
        x.run(false, 1, 1, 1);
        x.run(true, 1, 1, 1);
        x.minutes(2);
        Check.look(x, 0, 2, 3);
        Check.look(x, 1, 1, 0);
        x.minutes(2);
        Check.look(x, 0, 1, 2);
        Check.look(x, 1, 1, 0);
        x.minutes(6);
        Check.look(x, 0, 3, 0, 0, 0, 0, 0, 10);
        // The way is clear in the very minute in which the other run came to its end.
        Check.look(x, 1, 2, 0, 2);
        x.minutes(8);
        Check.look(x, 1, 3, 3, 0, 0, 0, 0, 18);
    }

    private static void upFirstInABlock() {
        PostBus x = Check.line("-p", 3, 3);
        x.run(true, 1, 1, 1);
        x.run(false, 2, 1, 1);
        x.minutes(4);
        Check.look(x, 0, 2, 0, 1);
        Check.look(x, 1, 1, 2);
        x.minutes(1);
        Check.look(x, 0, 1, 1);
        Check.look(x, 1, 1, 2);
        x.minutes(4);
        Check.look(x, 0, 3, 2);
        Check.look(x, 1, 2, 2, 3);
    }

    private static void blocksSideBySide() {
        for (int first = 0; first < 2; first++) {
            PostBus x = Check.line("pp", 3, 3);
            x.run(first == 0, 1, 1, 1);
            x.run(first != 0, 1, 1, 1);
            x.minutes(2);
            Check.look(x, 0, 2);
            Check.look(x, 1, 2);
            // Both come to place 1 in minute 5, and may leave it past each other.
            x.minutes(4);
            Check.look(x, 0, 2, 1);
            Check.look(x, 1, 2, 1);
        }
    }

    private static void followingRuns() {
        PostBus x = Check.line("-pp", 3, 3, 3);
        x.run(true, 1, 1, 1);
        x.run(true, 1, 1, 1);
        x.minutes(2);
        Check.look(x, 0, 2, 0, 3);
        Check.look(x, 1, 1, 0);
        x.minutes(3);
        // It stands at place 1, no passing place, so the next one must not follow yet.
        Check.look(x, 0, 1, 1);
        Check.look(x, 1, 1, 0);
        x.minutes(1);
        // The lower number has left place 1 already when the higher one asks.
        Check.look(x, 0, 2, 1, 3);
        Check.look(x, 1, 2, 0, 3);
    }

    private static void followingInPassingPlaces() {
        PostBus x = Check.line("pp", 3, 3);
        x.run(true, 1, 1, 1);
        x.run(true, 1, 1, 1);
        x.minutes(5);
        Check.look(x, 0, 1, 1);
        Check.look(x, 1, 2, 0, 3);
    }

    private static void narrowPlaceAhead() {
        // The first waits for snow at place 1; the second may not come up to it while it stands there.
        PostBus x = Check.line("-p", 2, 2);
        x.snow(1, 1, 20);
        x.run(true, 1, 1, 1);
        x.run(true, 2, 1, 1);
        x.run(false, 2, 1, 1);
        x.minutes(20);
        Check.look(x, 0, 1, 1);
        Check.look(x, 1, 1, 0);
        Check.look(x, 2, 1, 2);
        x.minutes(1);
        Check.look(x, 0, 2, 1);
        Check.look(x, 1, 2, 0);
        Check.look(x, 2, 1, 2);
    }

    private static void beginnersMayLeaveOnlyLater() {
        PostBus x = Check.line("p", 2);
        x.run(true, 400, 1, 1);
        x.minutes(200);
        x.minutes(200);
        Check.look(x, 0, 1, 0, 0, 0, 0, 0, 0, 400, 1, 400);
        x.minutes(1);
        Check.look(x, 0, 2, 0, 2);
        x.minutes(2);
        Check.look(x, 0, 3, 1, 0, 0, 0, 0, 403);
    }

    private static void peopleByMinute() {
        PostBus x = Check.line("p", 5);
        x.run(true, 4, 2, 0);
        x.load(0, 0, 1, 3);
        x.load(0, 0, 1, 2);
        x.load(0, 0, 1, 2);
        x.load(0, 0, 1, 2);
        x.load(1, 0, 1, 0);
        x.minutes(4);
        Check.lies(x, 0, 0, -1, 0, 0);
        Check.lies(x, 1, 1, 0, 0, 3);
        Check.lies(x, 2, 1, 0, 0, 3);
        Check.lies(x, 3, 0, -1, 0, 0);
        Check.lies(x, 4, 0, -1, 0, 0);
        Check.look(x, 0, 1, 0, 0, 2, 0, 6);
    }

    private static void thingsByDistance() {
        PostBus x = Check.line("ppp", 1, 1, 1);
        x.run(false, 1, 1, 3);
        x.load(1, 3, 2, 0);
        x.load(2, 3, 1, 0);
        x.load(1, 3, 1, 0);
        x.load(2, 3, 0, 1);
        x.load(1, 3, 0, 2);
        x.load(1, 2, 3, 0);
        x.minutes(1);
        Check.look(x, 0, 1, 3, 0, 0, 3, 4);
        int[] in = {0, 1, 1, 1, 0, 0};
        for (int load = 0; load < in.length; load++) {
            Check.lies(x, load, in[load]);
        }
        x.minutes(9);
        int[] out = {0, 2, 2, 2, 0, 0};
        for (int load = 0; load < out.length; load++) {
            Check.lies(x, load, out[load]);
        }
        Check.lies(x, 1, 2, 0, 5, 1);
        Check.lies(x, 3, 2, 0, 7, 2);
        Check.due("got out", x.count(5), 3);
        Check.due("wait still", x.count(6), 3);
    }

    private static void fares() {
        PostBus x = Check.line("ppppp", 1, 1, 1, 1, 1);
        x.run(true, 1, 40, 40);
        int[] distance = {1, 2, 3, 4, 5};
        for (int k = 0; k < distance.length; k++) {
            x.load(0, 0, distance[k], 0);
            x.load(1, 0, distance[k], 0);
            x.load(2, 0, distance[k], 0);
        }
        x.minutes(1);
        int[] person = {3, 4, 5, 6, 7};
        int[] milk = {1, 1, 2, 2, 3};
        for (int k = 0; k < distance.length; k++) {
            Check.lies(x, 3 * k, 1, 0, 0, person[k]);
            Check.lies(x, 3 * k + 1, 1, 0, 0, 1);
            Check.lies(x, 3 * k + 2, 1, 0, 0, milk[k]);
        }
        Check.look(x, 0, 1, 0, 0, 5, 10, 39);
        x.run(false, 2, 1, 0);
        x.load(0, 5, 0, 0);
        x.minutes(1);
        Check.due("COINS of both", x.count(7), 46);
        Check.due("COINS of the second", x.look(1, 5), 7);
    }

    private static void gettingOutFreesSeats() {
        PostBus x = Check.line("pp", 2, 2);
        x.run(true, 1, 1, 1);
        x.load(0, 0, 1, 0);
        x.load(0, 1, 2, 0);
        x.load(2, 0, 1, 0);
        x.load(1, 1, 2, 0);
        x.load(0, 1, 0, 0);
        x.minutes(4);
        Check.lies(x, 0, 2, 0, 4, 3);
        Check.lies(x, 1, 1, 0, 0, 3);
        Check.lies(x, 2, 2, 0, 4, 1);
        Check.lies(x, 3, 1, 0, 0, 1);
        Check.lies(x, 4, 0, -1, 0, 0);
        Check.look(x, 0, 1, 1, 0, 1, 1, 8);
        x.minutes(3);
        Check.look(x, 0, 3, 2, 0, 0, 0, 8, 7);
        Check.lies(x, 1, 2, 0, 7, 3);
        Check.lies(x, 3, 2, 0, 7, 1);
    }

    private static void loadsThatComeLater() {
        // Whoever comes in the minute in which the run leaves still gets in; a minute later is too late.
        PostBus x = Check.line("p", 5);
        x.run(true, 3, 5, 5);
        x.load(0, 0, 1, 4);
        x.load(0, 0, 1, 5);
        x.minutes(3);
        Check.lies(x, 0, 0, -1);
        Check.due("nobody waits", x.count(6), 0);
        x.minutes(1);
        Check.lies(x, 0, 1, 0);
        Check.look(x, 0, 2, 0, 5, 1);
        x.minutes(1);
        Check.lies(x, 1, 0, -1);
        Check.due("one waits", x.count(6), 1);
    }

    private static void twoRunsWithLoads() {
        PostBus x = Check.line("pp", 2, 2);
        x.run(true, 1, 1, 1);
        x.run(true, 1, 1, 1);
        x.load(0, 0, 1, 0);
        x.load(0, 0, 1, 0);
        x.load(0, 0, 1, 1);
        x.minutes(4);
        Check.lies(x, 0, 2, 0, 4, 3);
        Check.lies(x, 1, 1, 1, 0, 3);
        Check.lies(x, 2, 0, -1, 0, 0);
        Check.due("got out", x.count(5), 1);
        x.minutes(2);
        Check.lies(x, 1, 2, 1, 6, 3);
        Check.due("got out", x.count(5), 2);
        x.minutes(9);
        Check.look(x, 0, 3, 2, 0, 0, 0, 3, 7);
        Check.look(x, 1, 3, 2, 0, 0, 0, 3, 9);
    }

    private static void fullLine() {
        PostBus x = Check.line("---------", 1, 1, 1, 1, 1, 1, 1, 1, 1);
        for (int k = 0; k < 12; k++) {
            x.run(k % 2 == 0, 1 + k, 40, 40);
        }
        for (int k = 0; k < 80; k++) {
            x.load(k % 3, k % 10, (k + 1 + k / 10) % 10, 0);
        }
        StringBuilder text = new StringBuilder();
        for (int k = 0; k < 24; k++) {
            text.append("at ").append(k % 10).append(" wait 2 when people+things;");
        }
        Check.due("24 lines", Check.text(x, text.toString()), 0);
        Check.due("lines", x.count(8), 24);
        for (int k = 0; k < 3; k++) {
            x.minutes(200);
        }
        Check.due("runs OVER", x.count(4), 12);
        Check.due("got out", x.count(5), 80);
        Check.due("wait", x.count(6), 0);
    }

    private static void snowOnTheWay() {
        // Snow shuts a STRETCH to those that would leave for it, not to those on it.
        PostBus x = Check.line("pp", 4, 4);
        x.run(true, 1, 1, 1);
        x.snow(0, 3, 50);
        x.snow(1, 7, 9);
        x.minutes(2);
        Check.look(x, 0, 2, 0, 4);
        x.minutes(4);
        Check.look(x, 0, 1, 1, 0, 0, 0, 0, 0, 1, 1, 6);
        x.minutes(3);
        Check.look(x, 0, 1, 1, 0, 0, 0, 0, 0, 1, 1, 6);
        x.minutes(1);
        Check.look(x, 0, 2, 1, 4);
    }
}
