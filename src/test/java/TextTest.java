/** The tape (promise 7), the text and its faults (8), what its lines hold, and trains (5). */
public final class TextTest {
    private static final String LINE = "at 0 wait 1 when 0;";

    public static void main(String[] args) {
        tape();
        tapeIsTaken();
        tokens();
        faultsOfStanding();
        faultsOfNumbers();
        faultsOfTooMuch();
        faultyTextChangesNothing();
        values();
        holdsOnlyItsPlaceAndMinutes();
        peopleAndThings();
        late();
        lastOfItsWay();
        hour();
        trains();
        Check.end();
    }

    private static void tape() {
        PostBus x = new PostBus();
        Check.due("nothing fed", x.feed(0, 0, 0), 0);
        Check.due("one sign, the highest byte first", x.feed(0x6100000000000000L, 0, 0), 1);
        Check.due("signs left out", x.feed(0x0A1F207E7F80FF09L, -1L, 0x0B0D000000000000L), 4);
        Check.due("count(9)", x.count(9), 4);
        x = new PostBus();
        for (int k = 1; k <= 33; k++) {
            Check.due("feed " + k, x.feed(0x2020202020202020L, 0x2020202020202020L, 0x2020202020202020L), 24 * k);
        }
        Check.due("the tape is full", x.feed(0x2020202020202020L, 0x2020202020202020L, 0), 800);
        Check.due("count(9)", x.count(9), 800);
        Check.due("blanks are a text without lines", x.text(), 0);
        Check.due("order of a, b, c", order(), 1 + 16 * 10);
    }

    private static int order() {
        // "at 0 wait 1" in the order a, b, c would go on; the fault tells that '?' came tenth.
        PostBus x = new PostBus();
        x.feed(0x6174203020776169L, 0x742000000000003FL, 0x3100000000000000L);
        return x.text();
    }

    private static void tapeIsTaken() {
        PostBus x = new PostBus();
        Check.due("an empty text", x.text(), 0);
        Check.due("a text", Check.text(x, LINE), 0);
        Check.due("lines", x.count(8), 1);
        Check.due("the tape is empty", x.count(9), 0);
        Check.due("a faulty text", Check.text(x, "nonsense"), 1);
        Check.due("the tape is empty", x.count(9), 0);
        Check.due("the lines stay", x.count(8), 1);
        Check.due("two lines", Check.text(x, LINE + LINE), 0);
        Check.due("lines", x.count(8), 2);
        Check.due("an empty text takes their place", x.text(), 0);
        Check.due("lines", x.count(8), 0);
    }

    private static void tokens() {
        fault("at0wait1when0;", 0);
        fault("at 0wait 60when up;", 0);
        fault("\nat\n0 wait\n\n1 when 9999 ;\n", 0);
        fault("at 0000 wait 0060 when train0007;", 0);
        fault("at 0 wait 1 when 1<2and 2=2;", 0);
        fault("atx 0 wait 1 when 0;", 1);
        fault("AT 0 wait 1 when 0;", 1);
        fault("at 0 wait 1 when wednesday;", 1 + 16 * 17);
        fault("at 0 wait 1 when 12345;", 1 + 16 * 17);
        fault("at 00000 wait 1 when 1;", 1 + 16 * 3);
        fault("at 0 wait 1 when 1 > 2;", 1 + 16 * 19);
        fault("at 0 wait 1 when upup;", 1 + 16 * 17);
        fault("at 0 wait 1 when u p;", 1 + 16 * 17);
        fault("at 0 wait 1 when 1 2;", 1 + 16 * 19);
    }

    private static void faultsOfStanding() {
        fault("at", 1 + 16 * 2);
        fault("  at  ", 1 + 16 * 6);
        fault("at 0 wait 1 when 1", 1 + 16 * 18);
        fault("at 0 wait 1 when ;", 1 + 16 * 17);
        fault("at 0 wait 1 when (1;", 1 + 16 * 19);
        fault("at 0 wait 1 when 1);", 1 + 16 * 18);
        fault("at 0 wait 1 when ();", 1 + 16 * 18);
        fault("at 0 wait 1 when 1 +;", 1 + 16 * 20);
        fault("at 0 wait 1 when -1;", 1 + 16 * 17);
        fault("at 0 wait 1 when 1 < 2 < 3;", 1 + 16 * 23);
        fault("at 0 wait 1 when 1 = 2 = 3;", 1 + 16 * 23);
        fault("at 0 wait 1 when 1 and;", 1 + 16 * 22);
        fault("at 0 wait 1 when and 1;", 1 + 16 * 17);
        fault("at 0 wait 1 when at;", 1 + 16 * 17);
        fault("at 0 wait 1 when train;", 1 + 16 * 22);
        fault("at 0 wait 1 when train up;", 1 + 16 * 23);
        fault("at 0 wait 1 when train (1);", 1 + 16 * 23);
        fault("at 0 wait up when 1;", 1 + 16 * 10);
        fault("at up wait 1 when 1;", 1 + 16 * 3);
        fault("at 0 when 1 wait 1;", 1 + 16 * 5);
        fault("at 0 wait 1 and 1;", 1 + 16 * 12);
        fault(LINE + ";", 1 + 16 * 19);
        fault(LINE + "wait", 1 + 16 * 19);
        fault("~" + LINE, 1);
    }

    private static void faultsOfNumbers() {
        fault("at 1 wait 60 when 0;", 0);
        fault("at 2 wait 1 when 0;", 4 + 16 * 3);
        fault("at 9999 wait 0 when 0;", 4 + 16 * 3);
        fault("at 0 wait 0 when 0;", 4 + 16 * 10);
        fault("at 0 wait 61 when 0;", 4 + 16 * 10);
        fault("at 0 wait 1 when train 7;", 0);
        fault("at 0 wait 1 when train 8;", 4 + 16 * 23);
        fault("at 0 wait 1 when train 8 ?", 4 + 16 * 23);
        PostBus x = new PostBus();
        Check.due("place 1 is not there yet", Check.text(x, "at 1 wait 1 when 0;"), 4 + 16 * 3);
        x.place(1, true);
        Check.due("place 1 is there", Check.text(x, "at 1 wait 1 when 0;"), 0);
    }

    private static void faultsOfTooMuch() {
        StringBuilder lines = new StringBuilder();
        for (int k = 0; k < 24; k++) {
            lines.append(LINE);
        }
        fault(lines.toString(), 0);
        fault(lines + "\n", 0);
        fault(lines + " at", 5 + 16 * 457);
        fault(lines + LINE, 5 + 16 * 456);
        fault(lines + "when", 1 + 16 * 456);
        fault(lines + "?", 1 + 16 * 456);
        fault("at 0 wait 1 when ((((1))));", 0);
        fault("at 0 wait 1 when ((((train 1 + (1)))));", 5 + 16 * 32);
        fault("at 0 wait 1 when (((((1)))));", 5 + 16 * 22);
        fault("at 0 wait 1 when (((((up)))));", 5 + 16 * 22);
        fault("at 0 wait 1 when (((((train 9)))));", 5 + 16 * 22);
        fault("at 0 wait 1 when ((((((1))))));", 5 + 16 * 22);
        fault("at 0 wait 1 when ((((()))));", 1 + 16 * 22);
        fault("at 0 wait 1 when (((((and", 1 + 16 * 22);
        fault("at 0 wait 1 when (((((", 1 + 16 * 22);
        fault("at 0 wait 1 when (1)+((2))-((((3)))) and (((1)));", 0);
    }

    private static void faultyTextChangesNothing() {
        PostBus x = Check.line("p", 5);
        x.run(true, 1, 1, 1);
        Check.text(x, "at 0 wait 5 when 1;");
        Check.due("a text with a fault in its second line", Check.text(x, "at 0 wait 1 when 0; at 0 wait 0 when"), 4 + 16 * 30);
        Check.due("lines", x.count(8), 1);
        x.minutes(5);
        Check.look(x, 0, 1);
        x.minutes(1);
        Check.look(x, 0, 2);
    }

    private static void values() {
        holds("0", false);
        holds("1", true);
        holds("9999", true);
        holds("0-1", true);
        holds("3-2-1", false);
        holds("3-(2-1)", true);
        holds("1+1=2", true);
        holds("1+1=3", false);
        holds("1<2", true);
        holds("2<2", false);
        holds("3<2", false);
        holds("0-5<0", true);
        holds("2 and 3", true);
        holds("(2 and 3)=1", true);
        holds("0 and 1", false);
        holds("1 and 0", false);
        holds("1 and 1 and 0", false);
        holds("1 and 1 and 1", true);
        holds("0 and 0 = 0", false);
        holds("(0 and 0) = 0", true);
        holds("2 = 1 < 2", false, 1 + 16 * 23);
        holds("(1 < 2) + (2 < 3) = 2", true);
        holds("(5)=5", true);
        holds("(4 and 1 < (3 - (2 - 1)))", true);
        holds("up", true);
        holds("up - 1", false);
        holds("hour", false);
        holds("train 3 = 999", true);
        holds("people", false);
        holds("things", false);
        holds("late = 1", true);
        holds("last = 1", true);
    }

    private static void holds(String test, boolean held) {
        holds(test, held, 0);
    }

    private static void holds(String test, boolean held, int fault) {
        PostBus x = Check.line("p", 5);
        x.run(true, 1, 1, 1);
        Check.due(test, Check.text(x, "at 0 wait 9 when " + test + ";"), fault);
        x.minutes(2);
        Check.due(test + " holds", x.look(0, 0), held ? 1 : 2);
    }

    private static void fault(String text, int want) {
        PostBus x = Check.line("p", 5);
        Check.due("text '" + text + "'", Check.text(x, text), want);
    }

    private static void holdsOnlyItsPlaceAndMinutes() {
        PostBus x = Check.line("pp", 1, 1);
        x.run(true, 1, 1, 1);
        Check.text(x, "at 1 wait 1 when 1; at 1 wait 4 when up; at 2 wait 60 when 1; at 0 wait 1 when 1;");
        x.minutes(2);
        Check.look(x, 0, 2, 0);
        x.minutes(4);
        Check.look(x, 0, 1, 1, 0, 0, 0, 0, 0, 1, 1, 3);
        x.minutes(1);
        Check.look(x, 0, 2, 1);
        x.minutes(1);
        Check.look(x, 0, 3, 2);
    }

    private static void peopleAndThings() {
        // Both are counted behind the taking in of the same minute.
        PostBus x = Check.line("p", 5);
        x.run(true, 1, 5, 5);
        x.load(0, 0, 1, 0);
        x.load(0, 0, 1, 4);
        x.load(1, 0, 1, 6);
        Check.text(x, "at 0 wait 60 when people < 2; at 0 wait 60 when things = 0;");
        x.minutes(5);
        Check.look(x, 0, 1, 0, 0, 2, 0);
        x.minutes(1);
        Check.look(x, 0, 2, 0, 5, 2, 1);
    }

    private static void late() {
        // Down: at place 1 it is due in minute 1 + 4 + 1; snow keeps it at the top for three minutes more.
        PostBus x = Check.line("pp", 3, 4);
        x.run(false, 1, 1, 1);
        x.snow(1, 2, 4);
        Check.text(x, "at 1 wait 60 when late < 7;");
        x.minutes(9);
        Check.look(x, 0, 1, 1, 0, 0, 0, 0, 0, 1, 0, 9);
        x.minutes(3);
        Check.look(x, 0, 1, 1);
        x.minutes(1);
        Check.look(x, 0, 2, 1, 3);
        // Up: nothing keeps it, so it is late by one as soon as it might leave.
        x = Check.line("pp", 3, 4);
        x.run(true, 5, 1, 1);
        Check.text(x, "at 0 wait 60 when late = 1; at 1 wait 60 when late < 4;");
        x.minutes(6);
        Check.look(x, 0, 1, 0);
        x.minutes(1);
        Check.look(x, 0, 2, 0);
        x.minutes(3);
        Check.look(x, 0, 1, 1);
        x.minutes(2);
        Check.look(x, 0, 1, 1);
        x.minutes(1);
        Check.look(x, 0, 2, 1);
    }

    private static void lastOfItsWay() {
        PostBus x = Check.line("p", 5);
        x.run(true, 1, 1, 1);
        x.run(false, 9, 1, 1);
        x.run(true, 4, 1, 1);
        Check.text(x, "at 0 wait 60 when last = 0;");
        x.minutes(3);
        Check.look(x, 0, 1);
        x.minutes(1);
        Check.look(x, 0, 2);
        Check.look(x, 2, 1);
    }

    private static void hour() {
        PostBus x = Check.line("p", 5);
        x.run(true, 100, 1, 1);
        Check.text(x, "at 0 wait 60 when hour = 1;");
        x.minutes(119);
        Check.look(x, 0, 1);
        x.minutes(1);
        Check.look(x, 0, 2);
    }

    private static void trains() {
        PostBus x = Check.line("p", 5);
        x.run(true, 1, 1, 1);
        x.run(false, 1, 1, 1);
        x.train(2, 0, 10);
        Check.text(x, "at 0 wait 60 when 0 < train 2 and train 2 < 999; at 1 wait 60 when train 2 < 999;");
        x.minutes(1);
        Check.yes("the train is late", x.train(2, 0, 12));
        x.minutes(10);
        Check.look(x, 0, 1, 0);
        Check.look(x, 1, 3, 0);
        x.minutes(1);
        Check.look(x, 0, 2, 0);
        // A train that came counts 0, and one told for another place is none here.
        x = Check.line("p", 5);
        x.run(true, 5, 1, 1);
        x.train(0, 0, 3);
        Check.text(x, "at 0 wait 60 when train 0 = 0;");
        x.minutes(8);
        Check.look(x, 0, 1, 0);
        x.train(0, 1, 3);
        x.minutes(1);
        Check.look(x, 0, 2, 0);
    }
}
