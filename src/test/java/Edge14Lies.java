/** Promise 14, lies: what 0 .. 3 of a LOAD in each of its states; NoSuchElementException for all else. */
public final class Edge14Lies {
    public static void main(String[] args) {
        noneSuch();
        noneSuchOfEighty();
        farNumbers();
        waits();
        isInARun();
        gotOut();
        waitsForEver();
        Check.end();
    }

    private static void noneSuch() {
        Check.sentence("NoSuchElementException: none such");
        PostBus x = Check.line("p", 5);
        for (int what = -1; what <= 4; what++) {
            Check.noLies(x, 0, what);
        }
        x.load(0, 0, 1, 0);
        String before = Check.all(x);
        Check.noLies(x, -1, 0);
        Check.noLies(x, 1, 0);
        Check.noLies(x, 0, -1);
        Check.noLies(x, 0, 4);
        Check.noLies(x, 1, 4);
        Check.unchanged(before, x);
        Check.lies(x, 0, 0, -1, 0, 0);
    }

    private static void noneSuchOfEighty() {
        Check.sentence("NoSuchElementException: none such");
        PostBus x = Check.line("p", 5);
        for (int k = 0; k < 80; k++) {
            Check.noLies(x, k, 0);
            x.load(0, 0, 1, 0);
            Check.due("load " + k, x.lies(k, 0), 0);
        }
        Check.noLies(x, 80, 0);
    }

    private static void farNumbers() {
        Check.sentence("NoSuchElementException: none such");
        PostBus x = Check.line("p", 5);
        x.load(0, 0, 1, 0);
        x.load(0, 0, 1, 0);
        for (int far : Check.FAR) {
            Check.noLies(x, far, 0);
            Check.noLies(x, 0, far);
            Check.noLies(x, far, far);
        }
    }

    /** Run 1 takes LOAD 0 in minute 2 from 0 to 1, four minutes away; run 0 goes the other way. */
    private static PostBus started(int minutes) {
        PostBus x = Check.line("pp", 4, 4);
        x.run(false, 1, 1, 1);
        x.run(true, 2, 1, 1);
        x.load(0, 0, 1, 2);
        x.load(2, 0, 2, 3);
        x.minutes(minutes);
        return x;
    }

    private static void waits() {
        Check.sentence("0 waits, NONE, 0 ahead");
        Check.lies(started(0), 0, 0, -1, 0, 0);
        Check.lies(started(1), 0, 0, -1, 0, 0);
        Check.lies(started(2), 1, 0, -1, 0, 0);
    }

    private static void isInARun() {
        Check.sentence("1 is in a run; the run; what was paid");
        Check.lies(started(2), 0, 1, 1, 0, 3);
        Check.lies(started(6), 0, 1, 1, 0, 3);
        Check.lies(started(3), 1, 1, 1, 0, 1);
        Check.lies(started(11), 1, 1, 1, 0, 1);
    }

    private static void gotOut() {
        Check.sentence("2 got out; the minute in which it got out");
        Check.lies(started(7), 0, 2, 1, 7, 3);
        Check.lies(started(12), 1, 2, 1, 12, 1);
        Check.lies(started(200), 0, 2, 1, 7, 3);
        Check.lies(started(200), 1, 2, 1, 12, 1);
    }

    private static void waitsForEver() {
        Check.sentence("0 waits");
        PostBus x = started(3);
        // Both come too late for every run of their way.
        x.load(0, 0, 1, 0);
        x.load(1, 2, 0, 3);
        Check.goTo(x, 600);
        Check.lies(x, 2, 0, -1, 0, 0);
        Check.lies(x, 3, 0, -1, 0, 0);
    }
}
