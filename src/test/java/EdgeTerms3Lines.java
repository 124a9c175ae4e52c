/** Terms 3, what a line says: when it holds a run, and what its PARTS and signs tell. */
public final class EdgeTerms3Lines {
    public static void main(String[] args) {
        fewerMinutesThanItSays();
        atItsPlaceAlone();
        eitherWay();
        anyLineHolds();
        onlyIfNotNull();
        sums();
        comparing();
        and();
        up();
        peopleAndThings();
        late();
        last();
        hour();
        train();
        Check.end();
    }

    private static PostBus oneRun() {
        PostBus x = Check.line("pp", 4, 4);
        x.run(true, 1, 1, 1);
        return x;
    }

    private static void fewerMinutesThanItSays() {
        Check.sentence("the run stands there for fewer minutes than it says (0 in the minute in which it began to stand)");
        int[] waits = {1, 2, 3, 59, 60};
        for (int wait : waits) {
            PostBus x = oneRun();
            Check.text(x, "at 0 wait " + wait + " when 1; at 1 wait " + wait + " when 1;");
            x.minutes(wait);
            Check.look(x, 0, 1, 0);
            x.minutes(1);
            Check.look(x, 0, 2, 0);
            x.minutes(4);
            Check.look(x, 0, 1, 1);
            x.minutes(wait - 1);
            Check.look(x, 0, 1, 1);
            x.minutes(1);
            Check.look(x, 0, 2, 1);
        }
    }

    private static void atItsPlaceAlone() {
        Check.sentence("A line holds a run that stands at its PLACE");
        for (int place = 0; place < 3; place++) {
            PostBus x = oneRun();
            Check.text(x, "at " + place + " wait 60 when 1;");
            x.minutes(50);
            Check.look(x, 0, place == 2 ? 3 : 1, place);
        }
    }

    private static void eitherWay() {
        Check.sentence("A line holds a run that stands at its PLACE");
        PostBus x = Check.line("p", 4);
        x.run(true, 1, 1, 1);
        x.run(false, 1, 1, 1);
        Check.text(x, "at 0 wait 20 when 1; at 1 wait 30 when 1;");
        x.minutes(20);
        Check.look(x, 0, 1, 0);
        Check.look(x, 1, 1, 1);
        x.minutes(1);
        Check.look(x, 0, 2, 0);
        Check.look(x, 1, 1, 1);
    }

    private static void anyLineHolds() {
        Check.sentence("no line of the text holds it");
        for (int which = 0; which < 24; which++) {
            StringBuilder text = new StringBuilder();
            for (int line = 0; line < 24; line++) {
                text.append("at 0 wait ").append(line == which ? 9 : 2).append(" when 1;");
            }
            PostBus x = oneRun();
            Check.due("24 lines", Check.text(x, text.toString()), 0);
            x.minutes(9);
            Check.look(x, 0, 1, 0);
            x.minutes(1);
            Check.look(x, 0, 2, 0);
        }
    }

    private static void onlyIfNotNull() {
        Check.sentence("if its E is not 0");
        holds("0", false);
        holds("0000", false);
        holds("1", true);
        holds("9999", true);
        holds("0-1", true);
        holds("1-2", true);
        holds("5-5", false);
    }

    private static void holds(String test, boolean held) {
        PostBus x = oneRun();
        Check.due(test, Check.text(x, "at 0 wait 9 when " + test + ";"), 0);
        x.minutes(2);
        Check.due(test + " holds", x.look(0, 0), held ? 1 : 2);
    }

    private static void value(String sum, int value) {
        Check.value(EdgeTerms3Lines::oneRun, 0, 2, sum, value);
    }

    private static void sums() {
        Check.sentence("SUM: PART { + or - PART }");
        value("3-2-1", 0);
        value("3-(2-1)", 2);
        value("1-2+3", 2);
        value("1-(2+3)", -4);
        value("0-9999", -9999);
        value("(((4)))", 4);
        // Sums far beyond a NUMBER, and below 0, as great as 800 signs can make them.
        value("9999+9999+9999-9999-9999", 9999);
        value("9999" + "+9999".repeat(70) + "-9999".repeat(70), 9999);
        value("0" + "-9999".repeat(70) + "+9999".repeat(70), 0);
        holds("9999+9999+9999+9999<9999" + "+9999".repeat(145), true);
        holds("0" + "-9999".repeat(145) + "<0-9999-9999-9999", true);
    }

    private static void comparing() {
        Check.sentence("<, = tell 1 or 0");
        value("(1<2)", 1);
        value("(2<2)", 0);
        value("(3<2)", 0);
        value("(2=2)", 1);
        value("(2=3)", 0);
        value("(0-5<0)", 1);
        value("(0<0-5)", 0);
        value("(0-1=0-1)", 1);
        value("(1+1=2)", 1);
        value("(1<2)+(2<3)+(5=5)", 3);
        value("((1<2)<2)", 1);
        value("(5)", 5);
    }

    private static void and() {
        Check.sentence("\"and\": 1 if both sides are not 0");
        value("(2 and 3)", 1);
        value("(0 and 3)", 0);
        value("(2 and 0)", 0);
        value("(0 and 0)", 0);
        value("(0-2 and 3)", 1);
        value("(7 and 7 and 7)", 1);
        value("(0 and 7 and 7)", 0);
        value("(7 and 0 and 7)", 0);
        value("(7 and 7 and 0)", 0);
        value("(1<2 and 2=2)", 1);
        value("(2 and 1=1)", 1);
        value("(0 and 0=0)", 0);
        value("((0 and 0)=0)", 1);
        value("(4 and 1<(3-(2-1)))", 1);
        // All that a line can keep open at once: five PARTS deep, and a side of "and", of < and of - at each.
        holds("1 and 0<9-(1 and 0<9-(1 and 0<9-(1 and 0<9-(1 and 0<9-1))))", true);
        holds("1 and 0<1-(1 and 0<1-(1 and 0<1-(1 and 0<1-(1 and 0<1-0))))", true);
        holds("1 and 0<1-(1 and 0<1-(1 and 0<1-(1 and 0<1-(1 and 0<1-1))))", false);
    }

    private static void up() {
        Check.sentence("up: 1 or 0");
        value("up", 1);
        Check.value(() -> {
            PostBus x = Check.line("p", 4);
            x.run(false, 1, 1, 1);
            return x;
        }, 1, 2, "up", 0);
    }

    private static PostBus withLoads(int persons, int things) {
        PostBus x = Check.line("pp", 4, 4);
        x.run(true, 1, 40, 40);
        for (int k = 0; k < persons; k++) {
            x.load(0, 0, 2, 0);
        }
        for (int k = 0; k < things; k++) {
            x.load(1 + k % 2, 0, 2, 0);
        }
        return x;
    }

    private static void peopleAndThings() {
        Check.sentence("people, things: how many are in the run");
        Check.value(() -> withLoads(0, 0), 0, 2, "people", 0);
        Check.value(() -> withLoads(0, 0), 0, 2, "things", 0);
        Check.value(() -> withLoads(3, 2), 0, 2, "people", 3);
        Check.value(() -> withLoads(3, 2), 0, 2, "things", 2);
        Check.value(() -> withLoads(40, 40), 0, 2, "people+people+things", 120);
        Check.value(() -> withLoads(41, 39), 0, 2, "people", 40);
        Check.value(() -> withLoads(39, 41), 0, 2, "things", 40);
        // Those taken in the very minute count, those that got out do not.
        PostBus x = withLoads(1, 0);
        x.load(0, 0, 2, 5);
        x.load(1, 0, 1, 6);
        Check.text(x, "at 0 wait 60 when people < 2; at 0 wait 60 when things = 0; at 1 wait 9 when things;");
        x.minutes(5);
        Check.look(x, 0, 1, 0, 0, 2, 0);
        x.minutes(1);
        Check.look(x, 0, 2, 0, 4, 2, 1);
        x.minutes(5);
        Check.look(x, 0, 2, 1, 4, 2, 0);
    }

    /** Up: 3, 1 and 30 minutes to go; snow keeps the run at its first PLACE up to a minute. */
    private static PostBus kept(boolean up, int minute, int snow) {
        PostBus x = up ? Check.line("-pp", 3, 1, 30) : Check.line("p-p", 30, 1, 3);
        x.run(up, minute, 1, 1);
        x.snow(up ? 0 : 2, 1, snow);
        return x;
    }

    private static void late() {
        Check.sentence("late: beyond its setting out and all STRETCHES gone, and one for each PLACE left behind it");
        for (int side = 0; side < 2; side++) {
            boolean up = side == 1;
            int[] places = up ? new int[] {0, 1, 2} : new int[] {3, 2, 1};
            Check.value(() -> kept(up, 5, 1), places[0], 6, "late", 1);
            Check.value(() -> kept(up, 5, 1), places[0], 25, "late", 20);
            // It comes to the next PLACE in 5 + 1 + 3 at the soonest, and to the one behind it in 9 + 1 + 1.
            Check.value(() -> kept(up, 5, 1), places[1], 10, "late", 1);
            Check.value(() -> kept(up, 5, 1), places[1], 19, "late", 10);
            Check.value(() -> kept(up, 5, 10), places[1], 15, "late", 6);
            Check.value(() -> kept(up, 5, 1), places[2], 12, "late", 1);
            Check.value(() -> kept(up, 5, 10), places[2], 19, "late", 8);
            // From the first minute to the last.
            Check.value(() -> kept(up, 1, 590), places[1], 600, "late", 595);
        }
        Check.value(EdgeTerms3Lines::shifted, 0, 21, "late", 1);
    }

    private static PostBus shifted() {
        PostBus x = oneRun();
        x.shift(0, 20);
        return x;
    }

    private static PostBus withOthers(boolean sameWay, int minute) {
        PostBus x = oneRun();
        x.run(sameWay, minute, 1, 1);
        return x;
    }

    private static void last() {
        Check.sentence("last: 1 if no other run of its way has not begun");
        value("last", 1);
        Check.value(() -> withOthers(false, 300), 0, 2, "last", 1);
        Check.value(() -> withOthers(true, 300), 0, 2, "last", 0);
        Check.value(() -> withOthers(true, 3), 0, 2, "last", 0);
        Check.value(() -> withOthers(true, 3), 0, 3, "last", 1);
        Check.value(() -> {
            PostBus x = withOthers(true, 3);
            x.run(true, 20, 1, 1);
            return x;
        }, 0, 10, "last", 0);
        Check.value(() -> withOthers(true, 1), 0, 40, "last", 1);
        // The other one may have the lower number, too.
        PostBus x = Check.line("p", 4);
        x.run(true, 9, 1, 1);
        x.run(true, 1, 1, 1);
        Check.text(x, "at 0 wait 60 when last = 0;");
        x.minutes(8);
        Check.look(x, 1, 1, 0);
        x.minutes(1);
        Check.look(x, 0, 1, 0);
        Check.look(x, 1, 2, 0);
    }

    private static void hour() {
        Check.sentence("hour: minutes / 60 modulo 24");
        value("hour", 0);
        int[][] rows = {{20, 59, 0}, {20, 60, 1}, {80, 119, 1}, {80, 120, 2}, {310, 359, 5}, {310, 360, 6}};
        for (int[] row : rows) {
            Check.value(() -> {
                PostBus x = Check.line("p", 4);
                x.run(true, row[0], 1, 1);
                return x;
            }, 0, row[1], "hour", row[2]);
        }
        // A run that was kept by snow so long that the last minutes can be seen; no line holds for so long.
        int[][] ends = {{591, 9}, {599, 9}, {600, 10}};
        for (int[] end : ends) {
            Check.value(() -> {
                PostBus x = Check.line("pp", 1, 4);
                x.run(true, 400, 1, 1);
                x.snow(0, 1, 588);
                return x;
            }, 1, end[0], "hour", end[1]);
        }
    }

    private static PostBus withTrain(int place, int minute) {
        PostBus x = oneRun();
        x.train(5, place, minute);
        return x;
    }

    private static void train() {
        Check.sentence("train k: how many minutes until it comes (0 if it came, 999 without one, or not of this PLACE)");
        Check.value(() -> withTrain(0, 10), 0, 2, "train 5", 8);
        Check.value(() -> withTrain(0, 10), 0, 9, "train 5", 1);
        Check.value(() -> withTrain(0, 10), 0, 10, "train 5", 0);
        Check.value(() -> withTrain(0, 10), 0, 11, "train 5", 0);
        Check.value(() -> withTrain(0, 0), 0, 2, "train 5", 0);
        Check.value(() -> withTrain(0, 600), 0, 2, "train 5", 598);
        Check.value(() -> withTrain(0, 10), 0, 2, "train 4", 999);
        Check.value(() -> withTrain(1, 10), 0, 2, "train 5", 999);
        Check.value(() -> withTrain(1, 10), 0, 11, "train 5", 999);
        Check.value(() -> withTrain(1, 10), 1, 7, "train 5", 3);
        Check.value(() -> withTrain(0, 10), 1, 7, "train 5", 999);
        Check.value(() -> withTrain(2, 0), 1, 7, "train 5", 999);
        // A train that is late is told anew while the run waits for it.
        PostBus x = withTrain(0, 10);
        Check.text(x, "at 0 wait 60 when 0 < train 5 and train 5 < 999;");
        x.minutes(9);
        Check.yes("the train is late", x.train(5, 0, 12));
        x.minutes(2);
        Check.look(x, 0, 1, 0);
        x.minutes(1);
        Check.look(x, 0, 2, 0);
    }
}
