/** Promise 10, best: a run that has not begun, at most five minutes above NOW to 400; nothing changes. */
public final class Edge10Best {
    public static void main(String[] args) {
        noSuchRun();
        theLastOfTwelveRuns();
        itHasBegun();
        notAboveNow();
        above400();
        atMostFive();
        lowAboveHigh();
        farNumbers();
        noMinuteIsLeftFrom400On();
        none();
        nothingChanges();
        Check.end();
    }

    private static PostBus oneRun() {
        PostBus x = Check.line("p", 5);
        x.run(true, 50, 1, 1);
        return x;
    }

    private static void noSuchRun() {
        Check.sentence("NONE: no such run");
        PostBus x = Check.line("p", 5);
        Check.none("without a run", x.best(0, 1, 1));
        x.run(true, 50, 1, 1);
        Check.none("run -1", x.best(-1, 20, 21));
        Check.none("run 1", x.best(1, 20, 21));
        for (int far : Check.FAR) {
            Check.none("run " + far, x.best(far, 20, 21));
        }
        Check.none("takes", x.takes());
        Check.due("run 0", x.best(0, 20, 21), 20);
    }

    private static void theLastOfTwelveRuns() {
        Check.sentence("NONE: no such run");
        PostBus x = Check.line("p", 5);
        for (int k = 0; k < 12; k++) {
            x.run(true, 100, 1, 1);
        }
        Check.due("run 11", x.best(11, 20, 21), 20);
        Check.none("run 12", x.best(12, 20, 21));
    }

    private static void itHasBegun() {
        Check.sentence("NONE: it has begun");
        PostBus x = Check.line("p", 5);
        x.run(true, 2, 5, 5);
        x.run(true, 50, 5, 5);
        x.minutes(1);
        Check.due("ahead of its minute", x.best(0, 5, 6), 5);
        x.minutes(1);
        Check.none("it stands", x.best(0, 5, 6));
        x.minutes(1);
        Check.none("it drives", x.best(0, 5, 6));
        x.minutes(9);
        Check.none("it is OVER", x.best(0, 15, 16));
        Check.due("another has not begun", x.best(1, 15, 16), 15);
    }

    private static void notAboveNow() {
        Check.sentence("NONE: other minutes (both above NOW)");
        PostBus x = oneRun();
        Check.none("0 to 1 in minute 0", x.best(0, 0, 1));
        Check.none("-1 to 1 in minute 0", x.best(0, -1, 1));
        Check.due("1 to 1 in minute 0", x.best(0, 1, 1), 1);
        x.minutes(10);
        Check.none("low at NOW", x.best(0, 10, 12));
        Check.none("both at NOW", x.best(0, 10, 10));
        Check.none("both below NOW", x.best(0, 3, 4));
        Check.due("low at NOW + 1", x.best(0, 11, 12), 11);
    }

    private static void above400() {
        Check.sentence("NONE: other minutes (400 at most)");
        PostBus x = oneRun();
        Check.none("high 401", x.best(0, 400, 401));
        Check.none("both 401", x.best(0, 401, 401));
        Check.due("high 400", x.best(0, 396, 400), 396);
        Check.due("both 400", x.best(0, 400, 400), 400);
    }

    private static void atMostFive() {
        Check.sentence("NONE: other minutes (at most 5 of them)");
        PostBus x = oneRun();
        Check.none("six", x.best(0, 20, 25));
        Check.none("all", x.best(0, 1, 400));
        Check.due("five", x.best(0, 20, 24), 20);
        Check.due("one", x.best(0, 20, 20), 20);
        // The fifth is tried as the others are.
        x.snow(0, 1, 24);
        Check.due("five, of which the last is best", x.best(0, 20, 24), 24);
        Check.due("takes", x.takes(), 6);
    }

    private static void lowAboveHigh() {
        Check.sentence("NONE: other minutes (low to high)");
        PostBus x = oneRun();
        Check.none("21 to 20", x.best(0, 21, 20));
        Check.none("400 to 1", x.best(0, 400, 1));
        Check.none("takes", x.takes());
    }

    private static void farNumbers() {
        Check.sentence("NONE: other minutes");
        PostBus x = oneRun();
        for (int far : Check.FAR) {
            Check.none("low " + far, x.best(0, far, 5));
            Check.none("high " + far, x.best(0, 5, far));
            Check.none("both " + far, x.best(0, far, far));
        }
        // high - low wraps to small numbers here.
        Check.none("MIN to MAX", x.best(0, Integer.MIN_VALUE, Integer.MAX_VALUE));
        Check.none("MAX to MIN", x.best(0, Integer.MAX_VALUE, Integer.MIN_VALUE));
        Check.none("MIN + 4 to 3", x.best(0, Integer.MIN_VALUE + 4, 3));
        Check.none("400 to MIN", x.best(0, 400, Integer.MIN_VALUE));
        Check.none("takes", x.takes());
    }

    private static void noMinuteIsLeftFrom400On() {
        Check.sentence("NONE: other minutes (both above NOW, 400 at most)");
        PostBus x = Check.line("p", 5);
        x.run(true, 400, 1, 1);
        Check.goTo(x, 399);
        Check.due("400 in minute 399", x.best(0, 400, 400), 400);
        Check.none("399 in minute 399", x.best(0, 399, 400));
        x.minutes(1);
        Check.none("400 in minute 400", x.best(0, 400, 400));
        Check.none("401 in minute 400", x.best(0, 401, 401));
    }

    private static void none() {
        Check.sentence("NONE: none");
        PostBus x = Check.line("p", 5);
        x.run(true, 1, 1, 1);
        x.snow(0, 1, Integer.MAX_VALUE);
        String before = Check.all(x);
        Check.none("shut for ever", x.best(0, 1, 5));
        Check.unchanged(before, x);
    }

    private static void nothingChanges() {
        Check.sentence("Nothing changes");
        PostBus asked = busy();
        PostBus twin = busy();
        asked.minutes(3);
        twin.minutes(3);
        String before = Check.all(asked);
        Check.due("best", asked.best(3, 200, 204), 200);
        // takes() is what it tells; all else is as it was.
        Check.unchanged(before.replaceFirst("takes -1", "takes " + asked.takes()), asked);
        for (int round = 1; round < 4; round++) {
            asked.minutes(7);
            twin.minutes(7);
            Check.due("best", asked.best(3, 200 + round, 204 + round), 200 + round);
        }
        Check.due("best", twin.best(3, 203, 207), 203);
        Check.unchanged(Check.all(twin), asked);
    }

    private static PostBus busy() {
        PostBus x = Check.line("-pp", 2, 3, 1);
        x.run(true, 1, 2, 1);
        x.run(false, 3, 1, 2);
        x.run(true, 3, 1, 1);
        x.run(false, 210, 9, 9);
        for (int k = 0; k < 12; k++) {
            x.load(k % 3, k % 4, (k + 1) % 4, k);
        }
        x.snow(1, 6, 9);
        Check.text(x, "at 1 wait 5 when last; at 3 wait 3 when things;");
        return x;
    }
}
