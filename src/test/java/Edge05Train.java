/** Promise 5, train: TRAINS 0 .. 7, to a PLACE, in a minute 0 .. 600, told anew as often as one likes. */
public final class Edge05Train {
    public static void main(String[] args) {
        otherTrains();
        otherPlaces();
        otherMinutes();
        farNumbers();
        refusedOnesLeaveTheOldOne();
        toldAnew();
        eachOnItsOwn();
        firstAndLastMinute();
        Check.end();
    }

    private static PostBus oneRun() {
        PostBus x = Check.line("p", 5);
        x.run(true, 1, 1, 1);
        return x;
    }

    private static void otherTrains() {
        Check.sentence("A TRAIN (0 .. 7)");
        PostBus x = Check.line("p", 5);
        Check.no("train -1", x.train(-1, 0, 1));
        Check.no("train 8", x.train(8, 0, 1));
        for (int k = 0; k < 8; k++) {
            Check.yes("train " + k, x.train(k, 0, 1));
        }
        Check.no("train 8", x.train(8, 0, 1));
    }

    private static void otherPlaces() {
        Check.sentence("comes to a PLACE");
        PostBus x = new PostBus();
        Check.yes("place 0 of one", x.train(0, 0, 1));
        Check.no("place 1 of one", x.train(0, 1, 1));
        x.place(5, true);
        Check.yes("place 1 of two", x.train(0, 1, 1));
        Check.no("place 2 of two", x.train(0, 2, 1));
        Check.no("place -1", x.train(0, -1, 1));
        for (int k = 2; k < 10; k++) {
            x.place(5, true);
        }
        Check.yes("place 9 of ten", x.train(0, 9, 1));
        Check.no("place 10 of ten", x.train(0, 10, 1));
    }

    private static void otherMinutes() {
        Check.sentence("in a minute (0 .. 600)");
        PostBus x = Check.line("p", 5);
        Check.no("minute -1", x.train(0, 0, -1));
        Check.no("minute 601", x.train(0, 0, 601));
        Check.yes("minute 0", x.train(0, 0, 0));
        Check.yes("minute 600", x.train(0, 0, 600));
        Check.goTo(x, 600);
        Check.yes("minute 0 in minute 600", x.train(0, 0, 0));
        Check.yes("minute 600 in minute 600", x.train(0, 0, 600));
        Check.no("minute 601 in minute 600", x.train(0, 0, 601));
    }

    private static void farNumbers() {
        Check.sentence("false: not so");
        PostBus x = Check.line("p", 5);
        for (int far : Check.FAR) {
            Check.no("train " + far, x.train(far, 0, 1));
            Check.no("place " + far, x.train(0, far, 1));
            Check.no("minute " + far, x.train(0, 0, far));
        }
    }

    private static void refusedOnesLeaveTheOldOne() {
        Check.sentence("false: not so, and the TRAIN told before comes as it was told");
        Check.value(() -> {
            PostBus x = oneRun();
            x.train(0, 0, 12);
            x.train(7, 0, 13);
            x.train(0, 2, 20);
            x.train(0, -1, 20);
            x.train(0, 0, 601);
            x.train(0, 0, -1);
            x.train(8, 0, 20);
            x.train(-1, 0, 20);
            return x;
        }, 0, 2, "train 0 + train 7", 10 + 11);
    }

    private static void toldAnew() {
        Check.sentence("told anew as often as one likes");
        Check.value(() -> {
            PostBus x = oneRun();
            for (int k = 0; k < 100; k++) {
                Check.yes("train told anew", x.train(3, k % 2, 600 - k));
            }
            Check.yes("train told at last", x.train(3, 0, 9));
            return x;
        }, 0, 2, "train 3", 7);
        Check.value(() -> {
            PostBus x = oneRun();
            x.train(3, 0, 9);
            x.train(3, 1, 9);
            return x;
        }, 0, 2, "train 3", 999);
    }

    private static void eachOnItsOwn() {
        Check.sentence("TRAINS, 8: each comes to a PLACE in a minute");
        for (int k = 0; k < 8; k++) {
            Check.value(() -> {
                PostBus x = oneRun();
                for (int each = 0; each < 8; each++) {
                    x.train(each, 0, 100 + each);
                }
                return x;
            }, 0, 2, "train " + k, 98 + k);
        }
    }

    private static void firstAndLastMinute() {
        Check.sentence("in a minute (0 .. 600)");
        Check.value(() -> withTrain(0), 0, 2, "train 0", 0);
        Check.value(() -> withTrain(1), 0, 2, "train 0", 0);
        Check.value(() -> withTrain(2), 0, 2, "train 0", 0);
        Check.value(() -> withTrain(3), 0, 2, "train 0", 1);
        Check.value(() -> withTrain(600), 0, 2, "train 0", 598);
    }

    private static PostBus withTrain(int minute) {
        PostBus x = oneRun();
        x.train(0, 0, minute);
        return x;
    }
}
