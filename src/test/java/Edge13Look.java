/** Promise 13, look: what 0 .. 9 of a run in each of its states; NoSuchElementException for all else. */
public final class Edge13Look {
    public static void main(String[] args) {
        noneSuch();
        noneSuchOfTwelve();
        farNumbers();
        notBegun();
        standsAtFirst();
        onAStretch();
        standsOnTheWay();
        over();
        sinceWhenItStands();
        Check.end();
    }

    private static void noneSuch() {
        Check.sentence("NoSuchElementException: none such");
        PostBus x = Check.line("p", 5);
        for (int what = -1; what <= 10; what++) {
            Check.noLook(x, 0, what);
        }
        x.run(true, 1, 1, 1);
        String before = Check.all(x);
        Check.noLook(x, -1, 0);
        Check.noLook(x, 1, 0);
        Check.noLook(x, 0, -1);
        Check.noLook(x, 0, 10);
        Check.noLook(x, 1, 10);
        Check.unchanged(before, x);
        Check.look(x, 0, 0, -1, 0, 0, 0, 0, 0, 1, 1, 0);
    }

    private static void noneSuchOfTwelve() {
        Check.sentence("NoSuchElementException: none such");
        PostBus x = Check.line("p", 5);
        for (int k = 0; k < 12; k++) {
            Check.noLook(x, k, 0);
            x.run(true, 1 + k, 1, 1);
            Check.due("minute of run " + k, x.look(k, 7), 1 + k);
        }
        Check.noLook(x, 12, 0);
    }

    private static void farNumbers() {
        Check.sentence("NoSuchElementException: none such");
        PostBus x = Check.line("p", 5);
        x.run(true, 1, 1, 1);
        x.run(true, 1, 1, 1);
        for (int far : Check.FAR) {
            Check.noLook(x, far, 0);
            Check.noLook(x, 0, far);
            Check.noLook(x, far, far);
        }
    }

    /** Stretches of 4, 1 and 3 minutes, a run each way, and one person and two things for each. */
    private static PostBus started(int minutes) {
        PostBus x = Check.line("ppp", 4, 1, 3);
        x.run(true, 2, 5, 5);
        x.run(false, 3, 5, 5);
        for (int kind = 0; kind < 3; kind++) {
            x.load(kind, 0, kind == 0 ? 1 : 3, 0);
            x.load(kind, 3, kind == 0 ? 0 : 1, 0);
        }
        x.minutes(minutes);
        return x;
    }

    private static void notBegun() {
        Check.sentence("0 not begun, NONE ahead, 0 ahead");
        for (int minute = 0; minute < 2; minute++) {
            PostBus x = started(minute);
            Check.look(x, 0, 0, -1, 0, 0, 0, 0, 0, 2, 1, 0);
            Check.look(x, 1, 0, -1, 0, 0, 0, 0, 0, 3, 0, 0);
        }
    }

    private static void standsAtFirst() {
        Check.sentence("1 stands; the PLACE where it stands; since when it stands");
        Check.look(started(2), 0, 1, 0, 0, 1, 2, 3 + 1 + 2, 0, 2, 1, 2);
        Check.look(started(3), 1, 1, 3, 0, 1, 2, 5 + 1 + 1, 0, 3, 0, 3);
    }

    private static void onAStretch() {
        Check.sentence("2 on a STRETCH; the PLACE that it left; minutes left on the STRETCH");
        for (int minute = 3; minute < 7; minute++) {
            Check.look(started(minute), 0, 2, 0, 7 - minute, 1, 2, 6, 0, 2, 1, 0);
        }
        for (int minute = 4; minute < 7; minute++) {
            Check.look(started(minute), 1, 2, 3, 7 - minute, 1, 2, 7, 0, 3, 0, 0);
        }
    }

    private static void standsOnTheWay() {
        Check.sentence("1 stands; 0 else (minutes left); people in it");
        Check.look(started(7), 0, 1, 1, 0, 0, 2, 6, 0, 2, 1, 7);
        Check.look(started(7), 1, 1, 2, 0, 1, 2, 7, 0, 3, 0, 7);
        // Both would go on to the STRETCH between them in minute 8: the lower number does.
        Check.look(started(8), 0, 2, 1, 1, 0, 2, 6, 0, 2, 1, 0);
        Check.look(started(8), 1, 1, 2, 0, 1, 2, 7, 0, 3, 0, 7);
        Check.look(started(9), 0, 1, 2, 0, 0, 2, 6, 0, 2, 1, 9);
        Check.look(started(9), 1, 2, 2, 1, 1, 2, 7, 0, 3, 0, 0);
        Check.look(started(10), 0, 2, 2, 3, 0, 2, 6, 0, 2, 1, 0);
        Check.look(started(10), 1, 1, 1, 0, 1, 0, 7, 0, 3, 0, 10);
    }

    private static void over() {
        Check.sentence("3 OVER; the minute in which it was OVER; 0 if it doesn't stand");
        Check.look(started(12), 0, 2, 2, 1, 0, 2, 6, 0, 2, 1, 0);
        Check.look(started(13), 0, 3, 3, 0, 0, 0, 6, 13, 2, 1, 0);
        Check.look(started(14), 1, 2, 1, 1, 1, 0, 7, 0, 3, 0, 0);
        Check.look(started(15), 1, 3, 0, 0, 0, 0, 7, 15, 3, 0, 0);
        Check.look(started(200), 0, 3, 3, 0, 0, 0, 6, 13, 2, 1, 0);
        Check.look(started(200), 1, 3, 0, 0, 0, 0, 7, 15, 3, 0, 0);
    }

    private static void sinceWhenItStands() {
        Check.sentence("9: since when it stands");
        PostBus x = Check.line("p", 5);
        x.run(true, 1, 1, 1);
        x.snow(0, 1, 100);
        for (int minute = 1; minute <= 100; minute += 33) {
            Check.goTo(x, minute);
            Check.due("minute " + minute + ": look(0, 9)", x.look(0, 9), 1);
        }
    }
}
