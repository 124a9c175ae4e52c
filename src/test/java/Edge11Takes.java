/** Promise 11, takes: NONE ahead of a best() that told one, and the latest such from then on. */
public final class Edge11Takes {
    public static void main(String[] args) {
        noneAheadOfOne();
        theLatestThatToldOne();
        leastAndGreatest();
        ofItsOwnObject();
        Check.end();
    }

    private static void noneAheadOfOne() {
        Check.sentence("NONE ahead of one");
        PostBus x = new PostBus();
        Check.none("new", x.takes());
        x.best(0, 1, 1);
        Check.none("best without a run", x.takes());
        x.place(5, true);
        x.run(true, 9, 1, 1);
        Check.none("a run was told", x.takes());
        x.best(0, 1, 6);
        Check.none("best of other minutes", x.takes());
        x.snow(0, 1, 600);
        x.best(0, 1, 5);
        Check.none("best that found none", x.takes());
        x.minutes(100);
        Check.none("minutes went by", x.takes());
    }

    private static void theLatestThatToldOne() {
        Check.sentence("by the latest best() that told one");
        PostBus x = Check.line("p", 5);
        x.run(true, 9, 1, 1);
        x.snow(0, 20, 30);
        Check.due("best", x.best(0, 1, 5), 1);
        Check.due("takes", x.takes(), 6);
        Check.due("best", x.best(0, 19, 23), 23);
        Check.due("takes", x.takes(), 13);
        Check.none("best of another run", x.best(1, 1, 5));
        Check.none("best of other minutes", x.best(0, 400, 401));
        Check.due("takes", x.takes(), 13);
        x.snow(0, 31, 600);
        Check.none("best that finds none", x.best(0, 40, 44));
        Check.due("takes", x.takes(), 13);
        x.shift(0, 40);
        x.minutes(200);
        Check.due("takes", x.takes(), 13);
        Check.none("best of a run that has begun", x.best(0, 300, 301));
        Check.due("takes", x.takes(), 13);
    }

    private static void leastAndGreatest() {
        Check.sentence("The minutes on the way");
        PostBus x = Check.line("p", 1);
        x.run(true, 9, 1, 1);
        Check.due("best", x.best(0, 1, 5), 1);
        Check.due("the least: one STRETCH of a minute", x.takes(), 2);
        x.snow(0, 1, 598);
        Check.due("best", x.best(0, 1, 1), 1);
        Check.due("the greatest: 1 to 600", x.takes(), 599);
    }

    private static void ofItsOwnObject() {
        Check.sentence("NONE ahead of one");
        PostBus x = Check.line("p", 5);
        x.run(true, 9, 1, 1);
        x.best(0, 1, 5);
        Check.due("takes", x.takes(), 6);
        Check.none("of another object", new PostBus().takes());
    }
}
