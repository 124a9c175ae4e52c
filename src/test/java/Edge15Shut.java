/** Promise 15, shut: 1 or 0 of a STRETCH in the latest minute; NONE: none such. */
public final class Edge15Shut {
    public static void main(String[] args) {
        noneSuch();
        farNumbers();
        inTheLatestMinute();
        aheadOfTheFirstMinute();
        inTheLastMinute();
        toldBehind();
        rowsThatOverlap();
        Check.end();
    }

    private static void noneSuch() {
        Check.sentence("NONE: none such");
        PostBus x = new PostBus();
        Check.none("shut(0) of one PLACE", x.shut(0));
        Check.none("shut(-1)", x.shut(-1));
        for (int k = 1; k < 10; k++) {
            x.place(1, true);
            Check.due("shut(" + (k - 1) + ")", x.shut(k - 1), 0);
            Check.none("shut(" + k + ")", x.shut(k));
        }
        Check.none("shut(-1)", x.shut(-1));
    }

    private static void farNumbers() {
        Check.sentence("NONE: none such");
        PostBus x = Check.line("pp", 5, 5);
        x.snow(0, 1, 9);
        x.snow(1, 1, 9);
        x.minutes(1);
        for (int far : Check.FAR) {
            Check.none("shut(" + far + ")", x.shut(far));
        }
    }

    private static void inTheLatestMinute() {
        Check.sentence("Whether a STRETCH is shut by snow in the latest minute");
        PostBus x = Check.line("ppp", 5, 5, 5);
        x.snow(1, 3, 4);
        int[] due = {0, 0, 0, 1, 1, 0, 0};
        for (int minute = 0; minute < due.length; minute++) {
            Check.due("minute " + minute + ": shut(0)", x.shut(0), 0);
            Check.due("minute " + minute + ": shut(1)", x.shut(1), due[minute]);
            Check.due("minute " + minute + ": shut(2)", x.shut(2), 0);
            x.minutes(1);
        }
    }

    private static void aheadOfTheFirstMinute() {
        Check.sentence("in the latest minute; the first is 1");
        PostBus x = Check.line("p", 5);
        x.snow(0, 1, 600);
        Check.due("minute 0", x.shut(0), 0);
        x.minutes(1);
        Check.due("minute 1", x.shut(0), 1);
    }

    private static void inTheLastMinute() {
        Check.sentence("in the latest minute; 600 at most");
        PostBus x = Check.line("pp", 5, 5);
        x.snow(0, 600, 600);
        x.snow(1, 1, 599);
        Check.goTo(x, 599);
        Check.due("minute 599: shut(0)", x.shut(0), 0);
        Check.due("minute 599: shut(1)", x.shut(1), 1);
        x.minutes(1);
        Check.due("minute 600: shut(0)", x.shut(0), 1);
        Check.due("minute 600: shut(1)", x.shut(1), 0);
    }

    private static void toldBehind() {
        Check.sentence("shut by snow in the latest minute");
        PostBus x = Check.line("pp", 5, 5);
        x.minutes(5);
        Check.yes("snow to NOW", x.snow(0, 3, 5));
        Check.yes("snow that has gone by", x.snow(1, 3, 4));
        Check.due("shut(0)", x.shut(0), 1);
        Check.due("shut(1)", x.shut(1), 0);
        x.minutes(1);
        Check.due("shut(0) a minute later", x.shut(0), 0);
    }

    private static void rowsThatOverlap() {
        Check.sentence("1 or 0");
        PostBus x = Check.line("p", 5);
        x.snow(0, 1, 3);
        x.snow(0, 2, 2);
        x.snow(0, 2, 4);
        int[] due = {0, 1, 1, 1, 1, 0};
        for (int minute = 0; minute < due.length; minute++) {
            Check.due("minute " + minute + ": shut(0)", x.shut(0), due[minute]);
            x.minutes(1);
        }
    }
}
