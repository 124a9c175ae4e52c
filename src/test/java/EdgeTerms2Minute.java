/** Terms 2, a minute: going on, standing, beginning, leaving, in this order and by numbers; snow. */
public final class EdgeTerms2Minute {
    public static void main(String[] args) {
        theFirstMinute();
        theLastMinuteOnAStretch();
        beginsInItsMinute();
        beginsWithTheOthers();
        leavesInALaterMinute();
        minutesAreCountedFromTheNextOne();
        leavesByNumbers();
        arrivalsComeFirst();
        snowShutsTheStretchAhead();
        snowStopsNobodyOnTheWay();
        snowAheadOfEachPlace();
        Check.end();
    }

    private static void theFirstMinute() {
        Check.sentence("A MINUTE (the first is 1)");
        PostBus x = Check.line("p", 5);
        Check.due("NOW", x.count(3), 0);
        x.run(true, 1, 1, 1);
        Check.look(x, 0, 0, -1);
        Check.due("minutes(1)", x.minutes(1), 1);
        Check.look(x, 0, 1, 0, 0, 0, 0, 0, 0, 1, 1, 1);
    }

    private static void theLastMinuteOnAStretch() {
        Check.sentence("a run on a STRETCH goes on by a minute; if that was its last it stands at the next PLACE");
        PostBus x = Check.line("pp", 3, 1);
        x.run(false, 2, 1, 1);
        int[][] due = {{0, -1, 0}, {0, -1, 0}, {1, 2, 0}, {2, 2, 1}, {1, 1, 0}, {2, 1, 3}, {2, 1, 2}, {2, 1, 1}, {3, 0, 0}};
        for (int[] row : due) {
            Check.look(x, 0, row);
            x.minutes(1);
        }
        Check.due("OVER in", x.look(0, 6), 8);
    }

    private static void beginsInItsMinute() {
        Check.sentence("a run whose minute is not above this one begins: it stands at its first PLACE");
        int[] minutes = {1, 2, 200, 399, 400};
        for (int minute : minutes) {
            PostBus x = Check.line("pp", 5, 5);
            x.run(true, minute, 1, 1);
            x.run(false, minute, 1, 1);
            Check.goTo(x, minute - 1);
            Check.look(x, 0, 0, -1);
            Check.look(x, 1, 0, -1);
            x.minutes(1);
            Check.look(x, 0, 1, 0, 0, 0, 0, 0, 0, minute, 1, minute);
            Check.look(x, 1, 1, 2, 0, 0, 0, 0, 0, minute, 0, minute);
        }
    }

    private static void beginsWithTheOthers() {
        Check.sentence("a run that has not begun begins");
        // Whatever stands at its first PLACE, a run begins there.
        PostBus x = Check.line("-p", 5, 5);
        for (int k = 0; k < 12; k++) {
            x.run(k % 2 == 0, 3, 1, 1);
        }
        x.minutes(3);
        for (int k = 0; k < 12; k++) {
            Check.look(x, k, 1, k % 2 == 0 ? 0 : 2);
        }
    }

    private static void leavesInALaterMinute() {
        Check.sentence("it leaves, if it began to stand in an earlier minute");
        PostBus x = Check.line("p", 2);
        x.run(true, 400, 1, 1);
        Check.goTo(x, 400);
        Check.look(x, 0, 1, 0, 0, 0, 0, 0, 0, 400, 1, 400);
        x.minutes(1);
        Check.look(x, 0, 2, 0, 2);
        x.minutes(2);
        Check.look(x, 0, 3, 1, 0, 0, 0, 0, 403);
    }

    private static void minutesAreCountedFromTheNextOne() {
        Check.sentence("It is on the STRETCH from then on; its minutes are counted from the next one");
        int[] minutes = {1, 2, 30};
        for (int stretch : minutes) {
            PostBus x = Check.line("p", stretch);
            x.run(true, 1, 1, 1);
            x.minutes(2);
            Check.look(x, 0, 2, 0, stretch);
            x.minutes(stretch - 1);
            Check.look(x, 0, 2, 0, 1);
            x.minutes(1);
            Check.look(x, 0, 3, 1, 0, 0, 0, 0, 2 + stretch);
        }
    }

    private static void leavesByNumbers() {
        Check.sentence("(3) By numbers: each that stands");
        // All want the one STRETCH in minute 2: the lowest number has it.
        for (int first = 0; first < 2; first++) {
            PostBus x = Check.line("p", 3);
            x.run(first == 0, 1, 1, 1);
            x.run(first != 0, 1, 1, 1);
            x.run(first == 0, 1, 1, 1);
            x.minutes(2);
            Check.look(x, 0, 2);
            Check.look(x, 1, 1);
            Check.look(x, 2, 1);
            x.minutes(3);
            // The STRETCH is free in the minute in which the first is OVER.
            Check.look(x, 0, 3);
            Check.look(x, 1, 2);
            Check.look(x, 2, 1);
        }
    }

    private static void arrivalsComeFirst() {
        Check.sentence("(1) a run on a STRETCH goes on, (2) begins, (3) each that stands takes, by numbers");
        // Both stand at PLACE 0 or 1 in minute 4, run 0 having begun and run 1 having come: run 0 takes first.
        PostBus x = Check.line("pp", 2, 2);
        x.run(false, 7, 1, 1);
        x.run(true, 1, 1, 1);
        x.run(false, 4, 1, 1);
        x.load(0, 1, 0, 0);
        x.load(0, 1, 2, 0);
        x.load(1, 2, 0, 7);
        x.minutes(4);
        Check.lies(x, 1, 1, 1);
        Check.lies(x, 0, 0, -1);
        Check.look(x, 1, 1, 1);
        Check.look(x, 2, 1, 2);
        x.minutes(3);
        // Run 1 is OVER at PLACE 2 in minute 7, run 0 begins there and takes ahead of run 2, which still waits.
        Check.look(x, 1, 3, 2, 0, 0, 0, 3, 7);
        Check.lies(x, 2, 1, 0, 0, 1);
        Check.look(x, 0, 1, 2, 0, 0, 1);
        Check.look(x, 2, 2, 2, 2);
    }

    private static void snowShutsTheStretchAhead() {
        Check.sentence("it leaves, if no snow shuts the STRETCH ahead");
        int[] last = {1, 2, 3, 30};
        for (int high : last) {
            PostBus x = Check.line("p", 5);
            x.run(true, 1, 1, 1);
            x.snow(0, 1, high);
            int leaves = Math.max(2, high + 1);
            x.minutes(leaves - 1);
            Check.look(x, 0, 1, 0);
            x.minutes(1);
            Check.look(x, 0, 2, 0, 5);
        }
    }

    private static void snowStopsNobodyOnTheWay() {
        Check.sentence("no snow shuts the STRETCH ahead");
        PostBus x = Check.line("pp", 4, 4);
        x.run(true, 1, 1, 1);
        x.snow(0, 3, 50);
        x.snow(1, 7, 9);
        x.minutes(2);
        Check.look(x, 0, 2, 0, 4);
        x.minutes(4);
        Check.look(x, 0, 1, 1, 0, 0, 0, 0, 0, 1, 1, 6);
        x.minutes(3);
        Check.look(x, 0, 1, 1, 0, 0, 0, 0, 0, 1, 1, 6);
        x.minutes(1);
        Check.look(x, 0, 2, 1, 4);
    }

    private static void snowAheadOfEachPlace() {
        Check.sentence("no snow shuts the STRETCH ahead");
        // The STRETCH behind, or one farther ahead, may be shut: it leaves PLACE 1 all the same.
        for (int up = 0; up < 2; up++) {
            PostBus x = Check.line("ppp", 2, 2, 2);
            x.run(up == 1, 1, 1, 1);
            x.minutes(3);
            x.snow(up == 1 ? 0 : 2, 1, 100);
            x.snow(up == 1 ? 2 : 0, 1, 100);
            x.minutes(2);
            Check.look(x, 0, 2, up == 1 ? 1 : 2, 2);
            x.minutes(95);
            Check.look(x, 0, 1, up == 1 ? 2 : 1);
        }
    }
}
