/** Promise 16, count: what 0 .. 9, each from empty to full; NONE for another what. */
public final class Edge16Count {
    public static void main(String[] args) {
        anotherWhat();
        placesRunsAndLoads();
        now();
        runsOver();
        loadsThatGotOutAndThatWait();
        thoseThatWaitByNow();
        coins();
        mostCoins();
        linesAndSigns();
        askingChangesNothing();
        Check.end();
    }

    private static void anotherWhat() {
        Check.sentence("NONE for another what");
        PostBus x = Check.line("p", 5);
        Check.none("count(-1)", x.count(-1));
        Check.none("count(10)", x.count(10));
        for (int far : Check.FAR) {
            Check.none("count(" + far + ")", x.count(far));
        }
        Check.due("count(0)", x.count(0), 2);
        Check.due("count(9)", x.count(9), 0);
    }

    private static void placesRunsAndLoads() {
        Check.sentence("0: PLACES, 1: runs, 2: LOADS");
        PostBus x = new PostBus();
        for (int k = 1; k <= 12; k++) {
            x.place(1, true);
            Check.due("PLACES", x.count(0), Math.min(10, k + 1));
        }
        for (int k = 1; k <= 14; k++) {
            x.run(true, 1, 1, 1);
            Check.due("runs", x.count(1), Math.min(12, k));
        }
        for (int k = 1; k <= 82; k++) {
            x.load(0, 0, 9, 600);
            Check.due("LOADS", x.count(2), Math.min(80, k));
        }
    }

    private static void now() {
        Check.sentence("3: NOW");
        PostBus x = new PostBus();
        int[] steps = {0, 1, 199, 200, 200};
        int sum = 0;
        for (int n : steps) {
            sum += n;
            x.minutes(n);
            Check.due("NOW", x.count(3), sum);
        }
        x.minutes(1);
        Check.due("NOW", x.count(3), 600);
    }

    private static void runsOver() {
        Check.sentence("4: runs OVER");
        PostBus x = Check.line("p", 1);
        for (int k = 0; k < 12; k++) {
            x.run(true, 1 + 3 * k, 1, 1);
        }
        for (int minute = 1; minute <= 40; minute++) {
            x.minutes(1);
            Check.due("minute " + minute, x.count(4), Math.min(12, minute / 3));
        }
    }

    private static void loadsThatGotOutAndThatWait() {
        Check.sentence("5: LOADS that got out, 6: those that wait by now");
        PostBus x = Check.line("p", 1);
        x.run(true, 1, 40, 40);
        for (int k = 0; k < 80; k++) {
            x.load(k % 2, 0, 1, 0);
        }
        int[][] due = {{0, 80}, {0, 0}, {0, 0}, {80, 0}, {80, 0}};
        for (int minute = 0; minute < due.length; minute++) {
            Check.due("minute " + minute + ": got out", x.count(5), due[minute][0]);
            Check.due("minute " + minute + ": wait", x.count(6), due[minute][1]);
            x.minutes(1);
        }
    }

    private static void thoseThatWaitByNow() {
        Check.sentence("6: those that wait by now");
        PostBus x = Check.line("p", 5);
        int[] minutes = {0, 1, 2, 2, 4};
        for (int minute : minutes) {
            x.load(minute % 3, minute % 2, 1 - minute % 2, minute);
        }
        int[] due = {1, 2, 4, 4, 5, 5};
        for (int minute = 0; minute < due.length; minute++) {
            Check.due("minute " + minute, x.count(6), due[minute]);
            x.minutes(1);
        }
    }

    private static void coins() {
        Check.sentence("7: COINS");
        PostBus x = Check.line("pp", 3, 3);
        x.run(true, 1, 5, 5);
        x.run(false, 1, 5, 5);
        x.load(0, 0, 2, 0);
        x.load(1, 2, 1, 0);
        x.load(2, 1, 2, 0);
        int[] due = {0, 5, 5, 5, 5, 6, 6};
        for (int minute = 0; minute < due.length; minute++) {
            Check.due("minute " + minute, x.count(7), due[minute]);
            x.minutes(1);
        }
        x.minutes(50);
        Check.due("when all is OVER", x.count(7), 6);
    }

    private static void mostCoins() {
        Check.sentence("7: COINS, the sum of all runs");
        PostBus x = Check.line("ppppppppp", 1, 1, 1, 1, 1, 1, 1, 1, 1);
        x.run(true, 1, 40, 0);
        x.run(false, 1, 40, 0);
        for (int k = 0; k < 80; k++) {
            x.load(0, k % 2 * 9, 9 - k % 2 * 9, 0);
        }
        x.minutes(1);
        Check.due("80 persons over 9 STRETCHES", x.count(7), 880);
        Check.due("run 0", x.look(0, 5), 440);
        Check.due("run 1", x.look(1, 5), 440);
    }

    private static void linesAndSigns() {
        Check.sentence("8: lines of the text, 9: signs on the TAPE");
        PostBus x = new PostBus();
        String line = "at 0 wait 1 when 1;";
        int[] lines = {1, 24, 3, 0};
        for (int k : lines) {
            Check.feed(x, line.repeat(k));
            Check.due("signs", x.count(9), 19 * k);
            x.text();
            Check.due("lines", x.count(8), k);
            Check.due("signs", x.count(9), 0);
        }
        Check.feed(x, line.repeat(50));
        Check.due("signs", x.count(9), 800);
        Check.due("lines, not read yet", x.count(8), 0);
    }

    private static void askingChangesNothing() {
        Check.sentence("count");
        PostBus x = Check.line("p", 5);
        x.run(true, 1, 1, 1);
        x.load(0, 0, 1, 0);
        Check.feed(x, "at");
        x.minutes(1);
        String before = Check.all(x);
        Check.unchanged(before, x);
        Check.unchanged(before, x);
    }
}
