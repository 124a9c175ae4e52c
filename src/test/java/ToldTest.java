/** What is told, and the limits of telling it: promises 1 to 6, 12, 15, 16 and the throws of 13 and 14. */
public final class ToldTest {
    public static void main(String[] args) {
        newObject();
        places();
        runs();
        loads();
        trains();
        snows();
        shifts();
        throwing();
        Check.end();
    }

    private static void newObject() {
        PostBus x = new PostBus();
        int[] counts = {1, 0, 0, 0, 0, 0, 0, 0, 0, 0};
        for (int what = 0; what < counts.length; what++) {
            Check.due("new: count(" + what + ")", x.count(what), counts[what]);
        }
        Check.due("count(10)", x.count(10), -1);
        Check.due("count(-1)", x.count(-1), -1);
        Check.due("new: takes()", x.takes(), -1);
        Check.due("new: shut(0)", x.shut(0), -1);
        Check.due("new: minutes(0)", x.minutes(0), 0);
        Check.due("new: best", x.best(0, 1, 2), -1);
        Check.no("new: shift", x.shift(0, 1));
        Check.due("new: load", x.load(0, 0, 1, 0), -1);
        Check.due("new: load 0 to 0", x.load(0, 0, 0, 0), -1);
        Check.yes("new: train to place 0", x.train(0, 0, 5));
        Check.no("new: snow", x.snow(0, 1, 2));
        Check.due("new: run", x.run(true, 1, 1, 1), -1);
    }

    private static void places() {
        PostBus x = new PostBus();
        Check.due("place 0 minutes", x.place(0, true), -1);
        Check.due("place 31 minutes", x.place(31, true), -1);
        Check.due("place -5 minutes", x.place(-5, true), -1);
        Check.due("place 1 minute", x.place(1, false), 1);
        Check.due("place 30 minutes", x.place(30, true), 2);
        Check.due("minutes go by", x.minutes(3), 3);
        for (int k = 3; k < 10; k++) {
            Check.due("place " + k, x.place(2, false), k);
        }
        Check.due("an eleventh place", x.place(2, true), -1);
        Check.due("count(0)", x.count(0), 10);

        x = Check.line("p", 5);
        Check.due("a run that is none", x.run(true, 0, 1, 1), -1);
        Check.due("a load that is none", x.load(0, 0, 0, 0), -1);
        Check.due("a place still", x.place(5, true), 2);
        Check.due("a load", x.load(0, 0, 2, 0), 0);
        Check.due("a place behind a load", x.place(5, true), -1);
        x = Check.line("p", 5);
        Check.due("a run", x.run(false, 1, 1, 0), 0);
        Check.due("a place behind a run", x.place(5, true), -1);
    }

    private static void runs() {
        PostBus x = Check.line("p", 5);
        x.minutes(10);
        Check.due("run at NOW", x.run(true, 10, 1, 0), -1);
        Check.due("run in minute 401", x.run(true, 401, 1, 0), -1);
        Check.due("run with 0 seats", x.run(true, 11, 0, 0), -1);
        Check.due("run with 41 seats", x.run(true, 11, 41, 0), -1);
        Check.due("run with room -1", x.run(true, 11, 1, -1), -1);
        Check.due("run with room 41", x.run(true, 11, 1, 41), -1);
        Check.due("run at NOW + 1", x.run(true, 11, 1, 0), 0);
        Check.due("run in minute 400", x.run(false, 400, 40, 40), 1);
        Check.look(x, 0, 0, -1, 0, 0, 0, 0, 0, 11, 1, 0);
        Check.look(x, 1, 0, -1, 0, 0, 0, 0, 0, 400, 0, 0);
        for (int k = 2; k < 12; k++) {
            Check.due("run " + k, x.run(true, 100, 1, 1), k);
        }
        Check.due("a 13th run", x.run(true, 100, 1, 1), -1);
        Check.due("count(1)", x.count(1), 12);
    }

    private static void loads() {
        PostBus x = Check.line("pp", 5, 5);
        Check.due("kind -1", x.load(-1, 0, 1, 0), -1);
        Check.due("kind 3", x.load(3, 0, 1, 0), -1);
        Check.due("from -1", x.load(0, -1, 1, 0), -1);
        Check.due("from 3", x.load(0, 3, 1, 0), -1);
        Check.due("to -1", x.load(0, 1, -1, 0), -1);
        Check.due("to 3", x.load(0, 1, 3, 0), -1);
        Check.due("to where it is", x.load(0, 1, 1, 0), -1);
        Check.due("minute -1", x.load(0, 0, 1, -1), -1);
        Check.due("minute 601", x.load(0, 0, 1, 601), -1);
        Check.due("minute 0", x.load(0, 0, 1, 0), 0);
        Check.due("minute 600", x.load(2, 2, 0, 600), 1);
        Check.lies(x, 0, 0, -1, 0, 0);
        Check.due("those that wait by now", x.count(6), 1);
        for (int k = 2; k < 80; k++) {
            Check.due("load " + k, x.load(1, 0, 2, 1), k);
        }
        Check.due("an 81st load", x.load(0, 0, 1, 0), -1);
        Check.due("count(2)", x.count(2), 80);
        x.minutes(1);
        Check.due("those that wait in minute 1", x.count(6), 79);
    }

    private static void trains() {
        PostBus x = Check.line("p", 5);
        Check.no("train -1", x.train(-1, 0, 1));
        Check.no("train 8", x.train(8, 0, 1));
        Check.no("train to place -1", x.train(0, -1, 1));
        Check.no("train to place 2", x.train(0, 2, 1));
        Check.no("train in minute -1", x.train(0, 0, -1));
        Check.no("train in minute 601", x.train(0, 0, 601));
        Check.yes("train in minute 0", x.train(7, 1, 0));
        for (int k = 0; k < 20; k++) {
            Check.yes("train told anew", x.train(0, k % 2, 600));
        }
    }

    private static void snows() {
        PostBus x = Check.line("pp", 5, 5);
        Check.no("snow on stretch -1", x.snow(-1, 1, 2));
        Check.no("snow on stretch 2", x.snow(2, 1, 2));
        Check.no("snow from minute 0", x.snow(0, 0, 2));
        Check.no("snow that ends before", x.snow(0, 3, 2));
        Check.yes("snow of one minute", x.snow(0, 2, 2));
        Check.yes("snow for ever", x.snow(1, 4, Integer.MAX_VALUE));
        Check.yes("snow again", x.snow(0, 4, 5));
        for (int k = 3; k < 20; k++) {
            Check.yes("snow row " + k, x.snow(0, 4, 4));
        }
        Check.no("a 21st row", x.snow(0, 1, 1));
        int[] lower = {0, 0, 1, 0, 1, 1, 0};
        int[] upper = {0, 0, 0, 0, 1, 1, 1};
        for (int minute = 0; minute < lower.length; minute++) {
            Check.due("minute " + minute + ": shut(0)", x.shut(0), lower[minute]);
            Check.due("minute " + minute + ": shut(1)", x.shut(1), upper[minute]);
            x.minutes(1);
        }
        Check.due("shut(2)", x.shut(2), -1);
        Check.due("shut(-1)", x.shut(-1), -1);

        x = Check.line("p", 5);
        x.minutes(5);
        Check.yes("snow told late", x.snow(0, 3, 5));
        Check.due("shut by snow told late", x.shut(0), 1);
    }

    private static void shifts() {
        PostBus x = Check.line("p", 5);
        x.run(true, 10, 1, 1);
        x.minutes(5);
        Check.no("shift of run -1", x.shift(-1, 10));
        Check.no("shift of run 1", x.shift(1, 10));
        Check.no("shift to NOW", x.shift(0, 5));
        Check.no("shift to minute 401", x.shift(0, 401));
        Check.due("still the old minute", x.look(0, 7), 10);
        Check.yes("shift to minute 400", x.shift(0, 400));
        Check.due("the new minute", x.look(0, 7), 400);
        Check.yes("shift to NOW + 1", x.shift(0, 6));
        x.minutes(1);
        Check.look(x, 0, 1, 0, 0, 0, 0, 0, 0, 6, 1, 6);
        Check.no("shift of a run that stands", x.shift(0, 20));
        x.minutes(20);
        Check.look(x, 0, 3, 1, 0, 0, 0, 0, 12, 6, 1, 0);
        Check.no("shift of a run that is OVER", x.shift(0, 50));
    }

    private static void throwing() {
        PostBus x = Check.line("p", 5);
        Check.noLook(x, 0, 0);
        Check.noLies(x, 0, 0);
        x.run(true, 1, 1, 1);
        x.load(0, 0, 1, 0);
        Check.noLook(x, -1, 0);
        Check.noLook(x, 1, 0);
        Check.noLook(x, 0, -1);
        Check.noLook(x, 0, 10);
        Check.noLies(x, -1, 0);
        Check.noLies(x, 1, 0);
        Check.noLies(x, 0, -1);
        Check.noLies(x, 0, 4);
    }
}
