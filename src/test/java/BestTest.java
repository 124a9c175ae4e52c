/** The best minute to set out (promise 10) and its minutes on the way (11). */
public final class BestTest {
    public static void main(String[] args) {
        limits();
        leastOfEqualMinutes();
        meetsAnother();
        neverOver();
        overInTheLastMinute();
        nothingChanges();
        mindsTheText();
        runThatHasBegun();
        Check.end();
    }

    private static void limits() {
        PostBus x = Check.line("p", 5);
        Check.due("without a run", x.best(0, 1, 1), -1);
        x.run(true, 50, 1, 1);
        x.minutes(10);
        Check.due("run -1", x.best(-1, 20, 21), -1);
        Check.due("run 1", x.best(1, 20, 21), -1);
        Check.due("low at NOW", x.best(0, 10, 12), -1);
        Check.due("both below NOW", x.best(0, 3, 4), -1);
        Check.due("high above 400", x.best(0, 399, 401), -1);
        Check.due("low above high", x.best(0, 21, 20), -1);
        Check.due("six minutes", x.best(0, 20, 25), -1);
        Check.due("lowest and highest numbers", x.best(0, Integer.MIN_VALUE, Integer.MAX_VALUE), -1);
        Check.due("takes ahead of one", x.takes(), -1);
        Check.due("five minutes", x.best(0, 11, 15), 11);
        Check.due("takes", x.takes(), 6);
        Check.due("one minute", x.best(0, 400, 400), 400);
        Check.due("none told", x.best(0, 10, 10), -1);
        Check.due("takes of the latest that was told", x.takes(), 6);
    }

    private static void leastOfEqualMinutes() {
        PostBus x = Check.line("p", 5);
        x.run(true, 1, 1, 1);
        x.snow(0, 4, 5);
        // Setting out in 3 it waits at the first place for two minutes, in 4 for one; 1, 2 and 5 go straight on.
        Check.due("best(0, 3, 4)", x.best(0, 3, 4), 4);
        Check.due("takes", x.takes(), 7);
        Check.due("best(0, 1, 5)", x.best(0, 1, 5), 1);
        Check.due("takes", x.takes(), 6);
        Check.due("best(0, 3, 5)", x.best(0, 3, 5), 5);
    }

    private static void meetsAnother() {
        // One BLOCK: whoever sets out while the other is in it waits until that one is OVER in minute 12.
        PostBus x = Check.line("-p", 4, 4);
        x.run(true, 2, 1, 1);
        x.run(false, 7, 1, 1);
        Check.due("best(1, 5, 9)", x.best(1, 5, 9), 9);
        Check.due("takes", x.takes(), 12);
        Check.due("best(1, 9, 13)", x.best(1, 9, 13), 11);
        Check.due("takes", x.takes(), 10);
        Check.yes("shift", x.shift(1, 11));
        x.minutes(21);
        Check.look(x, 1, 3, 0, 0, 0, 0, 0, 21);
    }

    private static void neverOver() {
        PostBus x = Check.line("pp", 5, 5);
        x.run(true, 1, 1, 1);
        x.snow(1, 8, 600);
        Check.due("shut for ever", x.best(0, 4, 8), -1);
        Check.due("takes", x.takes(), -1);
        Check.due("one goes ahead of the snow", x.best(0, 1, 5), -1);
        x = Check.line("pp", 5, 5);
        x.run(true, 1, 1, 1);
        x.snow(1, 9, 600);
        Check.due("only the first gets through", x.best(0, 1, 5), 1);
        Check.due("takes", x.takes(), 12);
    }

    private static void overInTheLastMinute() {
        PostBus x = Check.line("p", 10);
        x.run(true, 1, 1, 1);
        x.snow(0, 1, 589);
        Check.due("OVER in minute 600", x.best(0, 1, 1), 1);
        Check.due("takes", x.takes(), 599);
        x.snow(0, 590, 590);
        Check.due("OVER in minute 601 is none", x.best(0, 400, 400), -1);
        Check.due("takes", x.takes(), 599);
    }

    private static void nothingChanges() {
        PostBus x = Check.line("p", 5);
        x.run(true, 9, 5, 5);
        x.run(true, 2, 5, 5);
        x.load(0, 0, 1, 0);
        x.minutes(1);
        Check.due("best", x.best(0, 5, 9), 7);
        Check.look(x, 0, 0, -1, 0, 0, 0, 0, 0, 9, 1, 0);
        Check.look(x, 1, 0, -1, 0, 0, 0, 0, 0, 2, 1, 0);
        Check.lies(x, 0, 0, -1, 0, 0);
        Check.due("NOW", x.count(3), 1);
        Check.due("COINS", x.count(7), 0);
        x.minutes(1);
        Check.look(x, 1, 1, 0, 0, 1, 0, 3);
    }

    private static void mindsTheText() {
        // It waits for the train unless it sets out close to it; the load of minute 20 ends the waiting, too.
        PostBus x = Check.line("p", 5);
        x.run(true, 1, 5, 5);
        x.train(0, 0, 15);
        x.load(1, 0, 1, 18);
        Check.text(x, "at 0 wait 60 when 0 < train 0; at 0 wait 60 when things = 0;");
        Check.due("best(0, 10, 14)", x.best(0, 10, 14), 14);
        Check.due("takes", x.takes(), 9);
        Check.due("best(0, 15, 19)", x.best(0, 15, 19), 17);
        Check.due("takes", x.takes(), 6);
    }

    private static void runThatHasBegun() {
        PostBus x = Check.line("p", 5);
        x.run(true, 2, 5, 5);
        x.minutes(2);
        Check.due("it stands", x.best(0, 5, 6), -1);
        x.minutes(1);
        Check.due("it drives", x.best(0, 5, 6), -1);
        x.minutes(9);
        Check.due("it is OVER", x.best(0, 15, 16), -1);
    }
}
