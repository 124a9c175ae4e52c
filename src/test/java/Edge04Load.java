/** Promise 4, load: kinds 0 .. 2, two different PLACES, minutes 0 .. 600, eighty LOADS. */
public final class Edge04Load {
    public static void main(String[] args) {
        noSuchKind();
        noSuchPlaces();
        fromAndToTheSame();
        onePlace();
        otherMinutes();
        farNumbers();
        eightyAreThere();
        eightyThoughTheyGotOut();
        minutesThatHaveGoneBy();
        Check.end();
    }

    private static void noSuchKind() {
        Check.sentence("NONE: no such kind");
        PostBus x = Check.line("p", 5);
        String before = Check.all(x);
        Check.none("kind -1", x.load(-1, 0, 1, 0));
        Check.none("kind 3", x.load(3, 0, 1, 0));
        Check.unchanged(before, x);
        for (int kind = 0; kind < 3; kind++) {
            Check.due("kind " + kind, x.load(kind, 0, 1, 0), kind);
        }
        x.run(true, 1, 9, 9);
        x.minutes(1);
        // One person and two things: the kinds are told apart.
        Check.look(x, 0, 1, 0, 0, 1, 2);
    }

    private static void noSuchPlaces() {
        Check.sentence("NONE: no such PLACES");
        PostBus x = Check.line("pp", 5, 5);
        String before = Check.all(x);
        Check.none("from -1", x.load(0, -1, 1, 0));
        Check.none("from 3", x.load(0, 3, 1, 0));
        Check.none("to -1", x.load(0, 1, -1, 0));
        Check.none("to 3", x.load(0, 1, 3, 0));
        Check.unchanged(before, x);
        Check.due("from the first to the last", x.load(0, 0, 2, 0), 0);
        Check.due("from the last to the first", x.load(0, 2, 0, 0), 1);
        Check.lies(x, 1, 0, -1, 0, 0);
    }

    private static void fromAndToTheSame() {
        Check.sentence("NONE: from and to the same");
        PostBus x = Check.line("pp", 5, 5);
        String before = Check.all(x);
        for (int place = -1; place < 4; place++) {
            Check.none("from and to " + place, x.load(place + 1 & 1, place, place, 0));
        }
        Check.unchanged(before, x);
    }

    private static void onePlace() {
        Check.sentence("NONE: no such PLACES, from and to the same");
        PostBus x = new PostBus();
        Check.none("0 to 0", x.load(0, 0, 0, 0));
        Check.none("0 to 1", x.load(0, 0, 1, 0));
        Check.none("1 to 0", x.load(0, 1, 0, 0));
        Check.due("count(2)", x.count(2), 0);
    }

    private static void otherMinutes() {
        Check.sentence("NONE: a minute below 0 or above 600");
        PostBus x = Check.line("p", 5);
        String before = Check.all(x);
        Check.none("minute -1", x.load(0, 0, 1, -1));
        Check.none("minute 601", x.load(0, 0, 1, 601));
        Check.unchanged(before, x);
        Check.due("minute 0", x.load(0, 0, 1, 0), 0);
        Check.due("minute 600", x.load(0, 0, 1, 600), 1);
        Check.due("one waits in minute 0", x.count(6), 1);
        Check.goTo(x, 599);
        Check.due("one waits in minute 599", x.count(6), 1);
        x.minutes(1);
        Check.due("both wait in minute 600", x.count(6), 2);
    }

    private static void farNumbers() {
        Check.sentence("NONE: no such kind, PLACES, a minute below 0 or above 600");
        PostBus x = Check.line("pp", 5, 5);
        String before = Check.all(x);
        for (int far : Check.FAR) {
            Check.none("kind " + far, x.load(far, 0, 1, 0));
            Check.none("from " + far, x.load(0, far, 1, 0));
            Check.none("to " + far, x.load(0, 0, far, 0));
            Check.none("minute " + far, x.load(0, 0, 1, far));
        }
        Check.unchanged(before, x);
    }

    private static void eightyAreThere() {
        Check.sentence("NONE: 80 are there");
        PostBus x = Check.line("p", 5);
        for (int k = 0; k < 80; k++) {
            Check.due("load " + k, x.load(k % 3, k % 2, 1 - k % 2, k), k);
        }
        Check.due("count(2)", x.count(2), 80);
        Check.none("an 81st", x.load(0, 0, 1, 0));
        Check.none("an 81st that would be none", x.load(3, 1, 1, 601));
        Check.due("count(2)", x.count(2), 80);
        Check.lies(x, 79, 0, -1, 0, 0);
        Check.noLies(x, 80, 0);
    }

    private static void eightyThoughTheyGotOut() {
        Check.sentence("NONE: 80 are there, out or not");
        PostBus x = Check.line("p", 1);
        x.run(true, 1, 40, 40);
        for (int k = 0; k < 80; k++) {
            x.load(k % 2, 0, 1, 0);
        }
        x.minutes(9);
        Check.due("all got out", x.count(5), 80);
        Check.none("an 81st", x.load(0, 0, 1, 0));
    }

    private static void minutesThatHaveGoneBy() {
        Check.sentence("the minute from which it is there");
        PostBus x = Check.line("p", 5);
        Check.goTo(x, 600);
        Check.due("minute 0 in minute 600", x.load(0, 0, 1, 0), 0);
        Check.due("minute 600 in minute 600", x.load(2, 1, 0, 600), 1);
        Check.none("minute 601 in minute 600", x.load(2, 1, 0, 601));
        Check.due("both wait by now", x.count(6), 2);
    }
}
