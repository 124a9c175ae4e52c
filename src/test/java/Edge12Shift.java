/** Promise 12, shift: a run that has not begun, to a minute above NOW, 400 at most. */
public final class Edge12Shift {
    public static void main(String[] args) {
        noSuchRun();
        itHasBegun();
        notAboveNow();
        above400();
        farNumbers();
        setsOutThen();
        shiftedAgain();
        onlyThatRun();
        Check.end();
    }

    private static void noSuchRun() {
        Check.sentence("A run; false: not so");
        PostBus x = Check.line("p", 5);
        Check.no("without a run", x.shift(0, 10));
        x.run(true, 10, 1, 1);
        String before = Check.all(x);
        Check.no("run -1", x.shift(-1, 20));
        Check.no("run 1", x.shift(1, 20));
        for (int far : Check.FAR) {
            Check.no("run " + far, x.shift(far, 20));
        }
        Check.unchanged(before, x);
        for (int k = 1; k < 12; k++) {
            x.run(true, 10, 1, 1);
        }
        Check.yes("run 11", x.shift(11, 20));
        Check.no("run 12", x.shift(12, 20));
        Check.due("minute of run 11", x.look(11, 7), 20);
    }

    private static void itHasBegun() {
        Check.sentence("that has not begun; false: not so");
        PostBus x = Check.line("p", 2);
        x.run(true, 3, 1, 1);
        x.minutes(2);
        Check.yes("a minute ahead of its setting out", x.shift(0, 3));
        x.minutes(1);
        Check.no("it stands", x.shift(0, 20));
        x.minutes(1);
        Check.no("it drives", x.shift(0, 20));
        x.minutes(2);
        Check.no("it is OVER", x.shift(0, 20));
        Check.look(x, 0, 3, 1, 0, 0, 0, 0, 6, 3, 1, 0);
    }

    private static void notAboveNow() {
        Check.sentence("above NOW; false: not so");
        PostBus x = Check.line("p", 5);
        x.run(true, 10, 1, 1);
        Check.no("to 0 in minute 0", x.shift(0, 0));
        Check.yes("to 1 in minute 0", x.shift(0, 1));
        Check.yes("to 10 in minute 0", x.shift(0, 10));
        x.minutes(5);
        String before = Check.all(x);
        Check.no("to NOW", x.shift(0, 5));
        Check.no("to a minute below NOW", x.shift(0, 4));
        Check.unchanged(before, x);
        Check.yes("to NOW + 1", x.shift(0, 6));
        Check.due("look", x.look(0, 7), 6);
    }

    private static void above400() {
        Check.sentence("400 at most; false: not so");
        PostBus x = Check.line("p", 5);
        x.run(true, 10, 1, 1);
        Check.no("to 401", x.shift(0, 401));
        Check.due("look", x.look(0, 7), 10);
        Check.yes("to 400", x.shift(0, 400));
        Check.due("look", x.look(0, 7), 400);
        Check.goTo(x, 399);
        Check.no("to 401 in minute 399", x.shift(0, 401));
        Check.no("to 399 in minute 399", x.shift(0, 399));
        Check.yes("to 400 in minute 399", x.shift(0, 400));
        x.minutes(1);
        Check.look(x, 0, 1, 0, 0, 0, 0, 0, 0, 400, 1, 400);
    }

    private static void farNumbers() {
        Check.sentence("above NOW, 400 at most; false: not so");
        PostBus x = Check.line("p", 5);
        x.run(true, 10, 1, 1);
        String before = Check.all(x);
        for (int far : Check.FAR) {
            Check.no("to " + far, x.shift(0, far));
        }
        Check.unchanged(before, x);
    }

    private static void setsOutThen() {
        Check.sentence("sets out in another minute");
        int[] minutes = {3, 10, 17};
        for (int minute : minutes) {
            PostBus x = Check.line("p", 5);
            x.run(false, 10, 1, 1);
            x.minutes(2);
            Check.yes("shift", x.shift(0, minute));
            x.minutes(minute - 3);
            Check.look(x, 0, 0, -1, 0, 0, 0, 0, 0, minute, 0, 0);
            x.minutes(1);
            Check.look(x, 0, 1, 1, 0, 0, 0, 0, 0, minute, 0, minute);
        }
    }

    private static void shiftedAgain() {
        Check.sentence("sets out in another minute");
        PostBus x = Check.line("p", 5);
        x.run(true, 10, 1, 1);
        for (int minute = 1; minute <= 400; minute += 19) {
            Check.yes("to " + minute, x.shift(0, minute));
            Check.due("look", x.look(0, 7), minute);
        }
        Check.yes("to 400", x.shift(0, 400));
        Check.yes("back to 1", x.shift(0, 1));
        x.minutes(1);
        Check.due("it stands", x.look(0, 0), 1);
    }

    private static void onlyThatRun() {
        Check.sentence("A run sets out in another minute");
        PostBus x = Check.line("p", 5);
        x.run(true, 10, 1, 1);
        x.run(true, 11, 1, 1);
        x.run(false, 12, 1, 1);
        Check.yes("shift", x.shift(1, 300));
        Check.due("run 0", x.look(0, 7), 10);
        Check.due("run 1", x.look(1, 7), 300);
        Check.due("run 2", x.look(2, 7), 12);
    }
}
