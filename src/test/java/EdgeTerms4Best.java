/** Terms 4, BEST: soonest OVER behind its setting out, the least such, by minute 600, as if nothing else were told. */
public final class EdgeTerms4Best {
    public static void main(String[] args) {
        theLeastSuch();
        soonestBehindItsSettingOut();
        eachOfTheMinutes();
        meetsAnother();
        notOverByMinute600();
        overInMinute600();
        asIfNothingElseWereTold();
        itsOwnMinuteDoesNotCount();
        mindsTheText();
        mindsLast();
        mindsSeatsAndRoom();
        mindsWhereLoadsAre();
        mindsWhoIsOnTheWay();
        mindsWhoGetsOut();
        mindsWhoStands();
        Check.end();
    }

    private static void best(PostBus x, int run, int low, int high, int minute, int takes) {
        Check.due("best(" + run + ", " + low + ", " + high + ")", x.best(run, low, high), minute);
        Check.due("takes behind best(" + run + ", " + low + ", " + high + ")", x.takes(), takes);
    }

    private static void theLeastSuch() {
        Check.sentence("the least such");
        PostBus x = Check.line("p", 5);
        x.run(true, 1, 1, 1);
        best(x, 0, 1, 5, 1, 6);
        best(x, 0, 396, 400, 396, 6);
        x.snow(0, 4, 5);
        // Setting out in 3 it waits at the first PLACE for two minutes, in 4 for one; 1, 2 and 5 go straight on.
        best(x, 0, 3, 4, 4, 7);
        best(x, 0, 2, 5, 2, 6);
        best(x, 0, 3, 5, 5, 6);
        best(x, 0, 3, 7, 5, 6);
    }

    private static void soonestBehindItsSettingOut() {
        Check.sentence("that with which it would be OVER soonest behind its setting out");
        // All of them are OVER in minute 26; the latest is on its way for the shortest time.
        PostBus x = Check.line("p", 5);
        x.run(true, 1, 1, 1);
        x.snow(0, 1, 20);
        best(x, 0, 12, 16, 16, 10);
        best(x, 0, 1, 5, 5, 21);
        best(x, 0, 18, 22, 20, 6);
    }

    private static void eachOfTheMinutes() {
        Check.sentence("of the minutes low to high");
        for (int free = 20; free <= 24; free++) {
            // Snow leaves one minute alone, so that only who sets out a minute ahead of it goes straight on.
            PostBus x = Check.line("p", 5);
            x.run(true, 1, 1, 1);
            x.snow(0, 1, free);
            x.snow(0, free + 2, 100);
            best(x, 0, 20, 24, free, 6);
        }
    }

    private static void meetsAnother() {
        Check.sentence("if from now on nothing else were told: the others go on as they are told");
        // One BLOCK: whoever sets out while the other is in it waits until that one is OVER in minute 12.
        PostBus x = Check.line("-p", 4, 4);
        x.run(true, 2, 1, 1);
        x.run(false, 7, 1, 1);
        best(x, 1, 5, 9, 9, 12);
        best(x, 1, 9, 13, 11, 10);
        Check.yes("shift", x.shift(1, 11));
        x.minutes(21);
        Check.look(x, 1, 3, 0, 0, 0, 0, 0, 21);
        // The run of the lower number would be the one that the other waits for.
        x = Check.line("-p", 4, 4);
        x.run(false, 7, 1, 1);
        x.run(true, 2, 1, 1);
        best(x, 0, 1, 5, 1, 10);
        best(x, 0, 2, 6, 2, 10);
        best(x, 0, 3, 6, 6, 15);
    }

    private static void notOverByMinute600() {
        Check.sentence("One that would not be OVER by minute 600 is none");
        PostBus x = Check.line("pp", 5, 5);
        x.run(true, 1, 1, 1);
        x.snow(1, 8, 600);
        Check.none("shut for ever", x.best(0, 4, 8));
        Check.none("takes", x.takes());
        x = Check.line("pp", 5, 5);
        x.run(true, 1, 1, 1);
        x.snow(1, 9, 600);
        best(x, 0, 1, 5, 1, 12);
        Check.none("the others do not get through", x.best(0, 2, 5));
    }

    private static void overInMinute600() {
        Check.sentence("OVER by minute 600");
        PostBus x = Check.line("p", 10);
        x.run(true, 1, 1, 1);
        x.snow(0, 1, 589);
        best(x, 0, 1, 1, 1, 599);
        best(x, 0, 1, 5, 5, 595);
        best(x, 0, 396, 400, 400, 200);
        x.snow(0, 590, 590);
        Check.none("OVER in minute 601", x.best(0, 400, 400));
        Check.none("OVER in minute 601", x.best(0, 1, 5));
        Check.due("takes", x.takes(), 200);
    }

    private static void asIfNothingElseWereTold() {
        Check.sentence("if from now on nothing else were told");
        PostBus x = Check.line("p", 5);
        x.run(true, 100, 1, 1);
        x.minutes(10);
        best(x, 0, 21, 25, 21, 6);
        x.snow(0, 22, 24);
        best(x, 0, 21, 25, 24, 6);
        x.run(true, 24, 1, 1);
        // The other has the higher number and would have to wait itself in 25, but not from 26 on.
        best(x, 0, 24, 25, 24, 6);
        best(x, 0, 25, 26, 26, 9);
    }

    private static void itsOwnMinuteDoesNotCount() {
        Check.sentence("in which a run that has not begun might set out");
        for (int told = 1; told <= 400; told += 57) {
            PostBus x = Check.line("p", 5);
            x.run(true, told, 1, 1);
            x.snow(0, 1, 99);
            best(x, 0, 96, 100, 99, 6);
            Check.due("its minute", x.look(0, 7), told);
        }
    }

    private static void mindsTheText() {
        Check.sentence("would be OVER soonest: lines hold it, LOADS get in");
        PostBus x = Check.line("p", 5);
        x.run(true, 1, 5, 5);
        x.train(0, 0, 15);
        x.load(1, 0, 1, 18);
        Check.text(x, "at 0 wait 60 when 0 < train 0; at 0 wait 60 when things = 0;");
        best(x, 0, 10, 14, 14, 9);
        best(x, 0, 15, 19, 17, 6);
    }

    private static void mindsLast() {
        Check.sentence("a run that has not begun might set out");
        // Run 0 waits at the top until run 1 begins, whenever that is, and goes ahead of it then.
        PostBus x = Check.line("-p", 4, 4);
        x.run(false, 1, 1, 1);
        x.run(false, 30, 1, 1);
        x.run(true, 2, 1, 1);
        Check.text(x, "at 2 wait 60 when last = 0; at 0 wait 60 when up = 0;");
        x.minutes(5);
        best(x, 1, 20, 24, 20, 14);
        Check.look(x, 0, 1, 2);
    }

    private static void mindsSeatsAndRoom() {
        Check.sentence("would be OVER soonest: with its SEATS and ROOM");
        String[] words = {"people", "things"};
        for (int kind = 0; kind < 2; kind++) {
            PostBus x = Check.line("p", 5);
            x.run(true, 1, 2, 2);
            for (int k = 0; k < 3; k++) {
                x.load(kind, 0, 1, 0);
            }
            Check.text(x, "at 0 wait 30 when (" + words[kind] + " = 2) = 0;");
            best(x, 0, 1, 5, 1, 6);
        }
    }

    private static void mindsWhereLoadsAre() {
        Check.sentence("would be OVER soonest: LOADS get in where they are");
        PostBus x = Check.line("pp", 4, 4);
        x.run(true, 1, 1, 1);
        x.load(1, 1, 2, 0);
        Check.text(x, "at 0 wait 20 when things; at 1 wait 30 when things = 0;");
        best(x, 0, 1, 5, 1, 10);
    }

    private static void mindsWhoIsOnTheWay() {
        Check.sentence("if from now on nothing else were told: who is in a run stays in it");
        // Whoever is in the run up keeps it at PLACE 1 until 26, and the BLOCK is not free before 30.
        String[] words = {"people", "things"};
        for (int kind = 0; kind < 2; kind++) {
            PostBus x = Check.line("-p", 4, 4);
            x.run(true, 1, 1, 1);
            x.run(false, 100, 1, 1);
            x.load(kind, 0, 2, 0);
            Check.text(x, "at 1 wait 20 when " + words[kind] + " = 1;");
            x.minutes(3);
            best(x, 1, 7, 11, 11, 28);
        }
    }

    private static void mindsWhoGetsOut() {
        Check.sentence("if from now on nothing else were told: who is in a run gets out of it");
        PostBus x = Check.line("-p", 4, 4);
        x.run(true, 399, 1, 1);
        x.run(true, 1, 1, 1);
        x.run(false, 100, 1, 1);
        x.load(0, 0, 1, 0);
        Check.text(x, "at 1 wait 20 when people;");
        x.minutes(3);
        best(x, 2, 5, 9, 9, 11);
    }

    private static void mindsWhoStands() {
        Check.sentence("if from now on nothing else were told: who stands has stood since its minute");
        // The run up stands since 1 and leaves in 21: the BLOCK is free again in 30.
        PostBus x = Check.line("-p", 4, 4);
        x.run(true, 1, 1, 1);
        x.run(false, 100, 1, 1);
        Check.text(x, "at 0 wait 20 when up;");
        x.minutes(10);
        best(x, 1, 20, 24, 24, 15);
    }
}
