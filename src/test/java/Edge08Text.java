/** Promise 8, text: 0 or the FAULT; the TAPE is taken; only a text without a FAULT takes the old one's place. */
public final class Edge08Text {
    private static final String LINE = "at 0 wait 9 when 1;";

    public static void main(String[] args) {
        emptyTape();
        blanksAlone();
        theTapeIsTaken();
        aFaultChangesNothing();
        takesThePlaceOfTheOldOne();
        fullTape();
        cutAt800();
        fullOfLines();
        placesAreThoseOfNow();
        inAnyMinute();
        Check.end();
    }

    private static PostBus oneRun() {
        PostBus x = Check.line("p", 5);
        x.run(true, 1, 1, 1);
        return x;
    }

    private static void emptyTape() {
        Check.sentence("TEXT: 24 lines at most");
        PostBus x = oneRun();
        Check.due("an empty text", x.text(), 0);
        Check.due("lines", x.count(8), 0);
        Check.due("a line", Check.text(x, LINE), 0);
        Check.due("an empty text takes its place", x.text(), 0);
        Check.due("lines", x.count(8), 0);
        x.minutes(2);
        Check.look(x, 0, 2);
    }

    private static void blanksAlone() {
        Check.sentence("blanks (10, 32) between where one likes");
        PostBus x = oneRun();
        Check.text(x, LINE);
        Check.due("a blank", Check.text(x, " "), 0);
        Check.due("lines", x.count(8), 0);
        Check.due("an end of line", Check.text(x, "\n"), 0);
    }

    private static void theTapeIsTaken() {
        Check.sentence("what reads it takes it: it is empty then");
        PostBus x = oneRun();
        Check.feed(x, LINE);
        Check.due("signs", x.count(9), LINE.length());
        Check.due("a text", x.text(), 0);
        Check.due("signs", x.count(9), 0);
        Check.feed(x, "nonsense");
        Check.due("a faulty text", x.text(), 1);
        Check.due("signs", x.count(9), 0);
        Check.due("nothing is left of it", Check.text(x, LINE), 0);
        Check.due("lines", x.count(8), 1);
    }

    private static void aFaultChangesNothing() {
        Check.sentence("0, or its FAULT; a text without a FAULT takes the place");
        PostBus x = oneRun();
        Check.due("two lines", Check.text(x, "at 0 wait 4 when 1; at 0 wait 3 when 1;"), 0);
        String before = Check.all(x);
        Check.due("fault in line 1", Check.text(x, "at 0 wait 9"), 1 + 16 * 11);
        Check.due("fault in line 2", Check.text(x, "at 0 wait 9 when 1; at 0 wait 61"), 4 + 16 * 30);
        Check.due("fault at the end", Check.text(x, "at 0 wait 9 when 1; at 0 wait 9 when 1"), 1 + 16 * 38);
        Check.due("fault in line 25", Check.text(x, LINE.repeat(25)), 5 + 16 * 24 * 19);
        Check.unchanged(before, x);
        x.minutes(4);
        Check.look(x, 0, 1);
        x.minutes(1);
        Check.look(x, 0, 2);
    }

    private static void takesThePlaceOfTheOldOne() {
        Check.sentence("A text without a FAULT takes the place of the one there was");
        PostBus x = oneRun();
        Check.text(x, "at 0 wait 60 when 1; at 0 wait 50 when 1;");
        Check.due("lines", x.count(8), 2);
        Check.due("one line", Check.text(x, "at 0 wait 3 when 1;"), 0);
        Check.due("lines", x.count(8), 1);
        x.minutes(3);
        Check.look(x, 0, 1);
        x.minutes(1);
        Check.look(x, 0, 2);
    }

    private static void fullTape() {
        Check.sentence("The TAPE has at most 800 signs");
        // 17 + 1 + 2 * 388 + 5 = 799 signs: as many PARTS as a line can have.
        String line = "at 0 wait 9 when 1" + "+1".repeat(388) + "=389;";
        PostBus x = oneRun();
        Check.due("signs", Check.feed(x, line + " "), 800);
        Check.due("text", x.text(), 0);
        Check.due("lines", x.count(8), 1);
        x.minutes(2);
        Check.look(x, 0, 1);
        x = oneRun();
        Check.due("800 signs, the last a wrong one", Check.text(x, line + "?"), 1 + 16 * 799);
        x = oneRun();
        Check.due("the end behind 800 signs", Check.text(x, "at 0" + " ".repeat(796)), 1 + 16 * 800);
        Check.due("the same with one less", Check.text(x, "at 0" + " ".repeat(795)), 1 + 16 * 799);
        Check.due("800 signs that are tokens", Check.text(x, "(".repeat(800)), 1);
        Check.due("a WORD of 800 letters", Check.text(x, "a".repeat(800)), 1);
        Check.due("a NUMBER of 790 digits", Check.text(x, "at " + "1".repeat(790)), 1 + 16 * 3);
    }

    private static void cutAt800() {
        Check.sentence("what is beyond 800 is left out");
        PostBus x = oneRun();
        String blanks = " ".repeat(800 - LINE.length());
        Check.due("the line ends with the TAPE", Check.text(x, blanks + LINE), 0);
        Check.due("lines", x.count(8), 1);
        Check.due("its last sign is left out", Check.text(x, " " + blanks + LINE), 1 + 16 * 800);
        Check.due("lines", x.count(8), 1);
    }

    private static void fullOfLines() {
        Check.sentence("24 lines at most");
        PostBus x = oneRun();
        Check.due("23 lines", Check.text(x, LINE.repeat(23)), 0);
        Check.due("lines", x.count(8), 23);
        String other = "at 1 wait 1 when 1;";
        Check.due("24 lines", Check.text(x, other.repeat(23) + "at 0 wait 3 when 1;"), 0);
        Check.due("lines", x.count(8), 24);
        Check.due("25 lines", Check.text(x, LINE.repeat(25)), 5 + 16 * 24 * 19);
        Check.due("lines", x.count(8), 24);
        // The 24th line counts as the first one does.
        x.minutes(3);
        Check.look(x, 0, 1);
        x.minutes(1);
        Check.look(x, 0, 2);
    }

    private static void placesAreThoseOfNow() {
        Check.sentence("The first N is a PLACE");
        PostBus x = new PostBus();
        for (int places = 1; places <= 10; places++) {
            String last = "at " + (places - 1) + " wait 1 when 1;";
            Check.due(places + " PLACES: " + last, Check.text(x, last), 0);
            String beyond = "at " + places + " wait 1 when 1;";
            Check.due(places + " PLACES: " + beyond, Check.text(x, beyond), 4 + 16 * 3);
            x.place(1, false);
        }
    }

    private static void inAnyMinute() {
        Check.sentence("The TAPE is read as a TEXT");
        PostBus x = oneRun();
        x.minutes(1);
        Check.due("while the run stands", Check.text(x, LINE), 0);
        x.minutes(1);
        Check.look(x, 0, 1);
        Check.due("a text that lets it go", Check.text(x, "at 0 wait 9 when 0;"), 0);
        x.minutes(1);
        Check.look(x, 0, 2);
        Check.goTo(x, 600);
        Check.due("in minute 600", Check.text(x, LINE + LINE), 0);
        Check.due("lines", x.count(8), 2);
    }
}
