/** Promise 1, a new object: one PLACE, nothing else. */
public final class Edge01NewObject {
    public static void main(String[] args) {
        onePlaceAndNothingElse();
        nothingToAskFor();
        onePlaceIsTooFew();
        noTrains();
        noSnowAndNoLines();
        nothingIsShared();
        Check.end();
    }

    private static void onePlaceAndNothingElse() {
        Check.sentence("One PLACE, nothing else");
        PostBus x = new PostBus();
        int[] counts = {1, 0, 0, 0, 0, 0, 0, 0, 0, 0};
        for (int what = 0; what < counts.length; what++) {
            Check.due("count(" + what + ")", x.count(what), counts[what]);
        }
        Check.none("takes", x.takes());
    }

    private static void nothingToAskFor() {
        Check.sentence("nothing else");
        PostBus x = new PostBus();
        Check.noLook(x, 0, 0);
        Check.noLies(x, 0, 0);
        Check.none("shut(0)", x.shut(0));
        Check.none("best", x.best(0, 1, 2));
        Check.no("shift", x.shift(0, 1));
    }

    private static void onePlaceIsTooFew() {
        Check.sentence("One PLACE");
        PostBus x = new PostBus();
        Check.none("run up", x.run(true, 1, 1, 1));
        Check.none("run down", x.run(false, 1, 1, 1));
        Check.none("load to PLACE 1", x.load(0, 0, 1, 0));
        Check.none("load from PLACE 1", x.load(0, 1, 0, 0));
        Check.no("snow", x.snow(0, 1, 2));
        Check.yes("train to PLACE 0", x.train(0, 0, 5));
        Check.no("train to PLACE 1", x.train(0, 1, 5));
        Check.due("minutes go by on it", x.minutes(200), 200);
    }

    private static void noTrains() {
        Check.sentence("nothing else: no TRAIN");
        for (int k = 0; k < 8; k++) {
            Check.value(Edge01NewObject::oneRun, 0, 2, "train " + k, 999);
        }
    }

    private static PostBus oneRun() {
        PostBus x = Check.line("p", 5);
        x.run(true, 1, 1, 1);
        return x;
    }

    private static void noSnowAndNoLines() {
        Check.sentence("nothing else: no snow, no line of a text");
        PostBus x = Check.line("pp", 1, 1);
        x.run(true, 1, 1, 1);
        x.run(false, 1, 1, 1);
        for (int minute = 1; minute <= 5; minute++) {
            x.minutes(1);
            Check.due("minute " + minute + ": shut(0)", x.shut(0), 0);
            Check.due("minute " + minute + ": shut(1)", x.shut(1), 0);
        }
        Check.due("both are OVER", x.count(4), 2);
    }

    private static void nothingIsShared() {
        Check.sentence("nothing else, whatever another object was told");
        PostBus x = Check.line("-p", 5, 5);
        x.run(true, 1, 1, 1);
        x.load(0, 0, 1, 0);
        x.snow(0, 1, 9);
        x.train(0, 0, 9);
        Check.text(x, "at 0 wait 9 when 1;");
        Check.feed(x, "at");
        x.best(0, 1, 5);
        x.minutes(3);
        String before = Check.all(x);
        onePlaceAndNothingElse();
        nothingToAskFor();
        Check.value(Edge01NewObject::oneRun, 0, 2, "train 0", 999);
        Check.unchanged(before, x);
    }
}
