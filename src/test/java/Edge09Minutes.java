/** Promise 9, minutes: n 0 .. 200, NOW at most 600. */
public final class Edge09Minutes {
    public static void main(String[] args) {
        anotherN();
        noMinutes();
        beyond600();
        farNumbers();
        manyAreManyTimesOne();
        minute600IsTheLast();
        Check.end();
    }

    private static PostBus oneRun() {
        PostBus x = Check.line("pp", 2, 3);
        x.run(true, 1, 1, 1);
        x.load(0, 0, 2, 1);
        return x;
    }

    private static void anotherN() {
        Check.sentence("NONE for another n");
        PostBus x = oneRun();
        String before = Check.all(x);
        Check.none("minutes(-1)", x.minutes(-1));
        Check.none("minutes(201)", x.minutes(201));
        Check.unchanged(before, x);
        Check.due("minutes(1)", x.minutes(1), 1);
        Check.due("minutes(199)", x.minutes(199), 200);
        Check.due("minutes(200)", x.minutes(200), 400);
        Check.none("minutes(201)", x.minutes(201));
        Check.none("minutes(-1)", x.minutes(-1));
        Check.due("NOW", x.count(3), 400);
    }

    private static void noMinutes() {
        Check.sentence("n MINUTES (0 .. 200): NOW");
        PostBus x = oneRun();
        String before = Check.all(x);
        Check.due("minutes(0)", x.minutes(0), 0);
        Check.unchanged(before, x);
        x.minutes(1);
        before = Check.all(x);
        Check.due("minutes(0)", x.minutes(0), 1);
        Check.due("minutes(0)", x.minutes(0), 1);
        Check.unchanged(before, x);
    }

    private static void beyond600() {
        Check.sentence("NONE: beyond 600");
        PostBus x = new PostBus();
        Check.goTo(x, 400);
        Check.due("minutes(200) to 600", x.minutes(200), 600);
        x = oneRun();
        Check.goTo(x, 401);
        String before = Check.all(x);
        Check.none("minutes(200) to 601", x.minutes(200));
        Check.unchanged(before, x);
        Check.due("minutes(199) to 600", x.minutes(199), 600);
        before = Check.all(x);
        Check.none("minutes(1) to 601", x.minutes(1));
        Check.none("minutes(200) to 800", x.minutes(200));
        Check.unchanged(before, x);
        Check.due("minutes(0)", x.minutes(0), 600);
    }

    private static void farNumbers() {
        Check.sentence("NONE for another n");
        int[] from = {0, 1, 599, 600};
        for (int minute : from) {
            PostBus x = oneRun();
            Check.goTo(x, minute);
            String before = Check.all(x);
            for (int far : Check.FAR) {
                Check.none("minutes(" + far + ")", x.minutes(far));
            }
            Check.none("minutes(MAX - NOW)", x.minutes(Integer.MAX_VALUE - minute));
            Check.none("minutes(MAX - NOW + 1)", x.minutes(Integer.MAX_VALUE - minute + 1));
            Check.unchanged(before, x);
        }
    }

    private static void manyAreManyTimesOne() {
        Check.sentence("n MINUTES");
        PostBus many = busy();
        PostBus single = busy();
        many.minutes(50);
        for (int k = 0; k < 50; k++) {
            single.minutes(1);
        }
        Check.unchanged(Check.all(many), single);
    }

    private static PostBus busy() {
        PostBus x = Check.line("-pp", 2, 3, 1);
        x.run(true, 1, 2, 1);
        x.run(false, 3, 1, 2);
        x.run(true, 3, 1, 1);
        for (int k = 0; k < 12; k++) {
            x.load(k % 3, k % 4, (k + 1) % 4, k);
        }
        x.snow(1, 6, 9);
        return x;
    }

    private static void minute600IsTheLast() {
        Check.sentence("A MINUTE (the first is 1, 600 at most)");
        // Snow lets the run go so late that it is OVER in minute 600, or is still on its way then.
        int[] until = {594, 595};
        for (int last : until) {
            PostBus x = Check.line("p", 5);
            x.run(true, 400, 1, 1);
            x.snow(0, 1, last);
            Check.goTo(x, 600);
            Check.look(x, 0, last == 594 ? 3 : 2, last == 594 ? 1 : 0, last == 594 ? 0 : 1, 0, 0, 0,
                last == 594 ? 600 : 0);
            Check.none("minutes(1)", x.minutes(1));
        }
    }
}
