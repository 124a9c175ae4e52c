/** Promise 2, place: minutes 1 .. 30, ten PLACES, none behind a run or LOAD; the last is a passing place. */
public final class Edge02Place {
    public static void main(String[] args) {
        otherMinutes();
        minutesAreThoseOfTheStretch();
        tenAreThere();
        aRunWasTold();
        aLoadWasTold();
        refusedRunsAndLoadsWereNotTold();
        otherThingsMayBeTold();
        passingOrNot();
        theLastIsPassing();
        theLastOnlyWhileItIsTheLast();
        Check.end();
    }

    private static void otherMinutes() {
        Check.sentence("NONE: other minutes");
        PostBus x = new PostBus();
        String before = Check.all(x);
        Check.none("0 minutes", x.place(0, true));
        Check.none("31 minutes", x.place(31, true));
        Check.none("0 minutes", x.place(0, false));
        Check.none("31 minutes", x.place(31, false));
        for (int far : Check.FAR) {
            Check.none(far + " minutes", x.place(far, true));
        }
        Check.unchanged(before, x);
        Check.due("1 minute", x.place(1, true), 1);
        Check.due("30 minutes", x.place(30, true), 2);
        Check.none("0 minutes", x.place(0, true));
        Check.due("count(0)", x.count(0), 3);
    }

    private static void minutesAreThoseOfTheStretch() {
        Check.sentence("so many minutes away");
        PostBus x = Check.line("pp", 1, 30);
        x.run(true, 1, 1, 1);
        x.minutes(2);
        Check.look(x, 0, 2, 0, 1);
        x.minutes(1);
        Check.look(x, 0, 1, 1, 0);
        x.minutes(1);
        Check.look(x, 0, 2, 1, 30);
        x.minutes(29);
        Check.look(x, 0, 2, 1, 1);
        x.minutes(1);
        Check.look(x, 0, 3, 2, 0, 0, 0, 0, 34);
    }

    private static void tenAreThere() {
        Check.sentence("NONE: 10 are there");
        PostBus x = new PostBus();
        for (int k = 1; k < 10; k++) {
            Check.due("place " + k, x.place(30, false), k);
            Check.due("count(0)", x.count(0), k + 1);
        }
        String before = Check.all(x);
        Check.none("an 11th", x.place(1, true));
        Check.none("an 11th", x.place(30, false));
        Check.none("an 11th with other minutes", x.place(31, false));
        Check.unchanged(before, x);
        Check.due("the last STRETCH", x.shut(8), 0);
        Check.none("behind the last PLACE is no STRETCH", x.shut(9));
    }

    private static void aRunWasTold() {
        Check.sentence("NONE: a run was told");
        PostBus x = Check.line("p", 1);
        x.run(false, 1, 1, 0);
        String before = Check.all(x);
        Check.none("ahead of its minute", x.place(5, true));
        Check.unchanged(before, x);
        x.minutes(1);
        Check.none("while it stands", x.place(5, true));
        x.minutes(1);
        Check.none("while it drives", x.place(5, true));
        x.minutes(1);
        Check.due("it is OVER", x.count(4), 1);
        Check.none("when it is OVER", x.place(5, true));
        Check.due("count(0)", x.count(0), 2);
    }

    private static void aLoadWasTold() {
        Check.sentence("NONE: a LOAD was told");
        for (int kind = 0; kind < 3; kind++) {
            PostBus x = Check.line("p", 5);
            x.load(kind, 1, 0, 600);
            String before = Check.all(x);
            Check.none("a place behind a load", x.place(5, true));
            Check.unchanged(before, x);
        }
    }

    private static void refusedRunsAndLoadsWereNotTold() {
        Check.sentence("NONE: a run or LOAD was told");
        PostBus x = Check.line("p", 5);
        Check.none("a run that is none", x.run(true, 0, 1, 1));
        Check.none("a load that is none", x.load(0, 0, 0, 0));
        Check.due("a place still", x.place(5, true), 2);
    }

    private static void otherThingsMayBeTold() {
        Check.sentence("NONE: a run or LOAD was told, nothing else");
        PostBus x = Check.line("p", 5);
        x.train(0, 1, 5);
        x.snow(0, 1, 5);
        Check.due("a text", Check.text(x, "at 1 wait 1 when 1;"), 0);
        Check.feed(x, "at");
        x.minutes(200);
        x.minutes(200);
        x.minutes(200);
        Check.due("a place in minute 600", x.place(5, true), 2);
    }

    private static void passingOrNot() {
        Check.sentence("a passing place (yes)");
        // Two runs meet: they pass each other at PLACE 1, or the second waits for the whole line.
        for (int passing = 0; passing < 2; passing++) {
            PostBus x = Check.line(passing == 1 ? "pp" : "-p", 3, 3);
            x.run(true, 1, 1, 1);
            x.run(false, 1, 1, 1);
            x.minutes(2);
            Check.look(x, 0, 2, 0);
            Check.look(x, 1, passing + 1, 2);
        }
    }

    private static void theLastIsPassing() {
        Check.sentence("the last one is, too, as long as it is the last");
        // The text holds one run at the last PLACE; the other may come up to it all the same.
        PostBus x = Check.line("-", 3);
        x.run(false, 1, 1, 1);
        x.run(true, 1, 1, 1);
        Check.text(x, "at 1 wait 60 when 1;");
        x.minutes(2);
        Check.look(x, 0, 1, 1);
        Check.look(x, 1, 2, 0);
    }

    private static void theLastOnlyWhileItIsTheLast() {
        Check.sentence("as long as it is the last");
        PostBus x = new PostBus();
        x.place(3, false);
        x.place(3, false);
        x.run(false, 1, 1, 1);
        x.run(true, 1, 1, 1);
        x.minutes(2);
        // PLACE 1 is no passing place any more: the run down is in the one BLOCK that there is.
        Check.look(x, 0, 2, 2);
        Check.look(x, 1, 1, 0);
    }
}
