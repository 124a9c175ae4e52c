/** Terms 1, the line: 2 to 10 PLACES, STRETCHES numbered by the lower PLACE, passing places, BLOCKS, runs and LOADS. */
public final class EdgeTerms1Line {
    public static void main(String[] args) {
        fewestPlaces();
        mostPlaces();
        stretchesByTheirLowerPlace();
        theFirstAndTheLastArePassing();
        blockBetweenTwoPassingPlaces();
        theLongestBlock();
        mostRunsAndLoads();
        Check.end();
    }

    private static void fewestPlaces() {
        Check.sentence("PLACES, 2 to 10");
        PostBus x = Check.line("p", 1);
        x.run(true, 1, 1, 1);
        x.run(false, 4, 1, 1);
        x.minutes(3);
        Check.look(x, 0, 3, 1, 0, 0, 0, 0, 3);
        x.minutes(3);
        Check.look(x, 1, 3, 0, 0, 0, 0, 0, 6);
    }

    private static void mostPlaces() {
        Check.sentence("PLACES, 2 to 10; runs go UP (from 0 to the last PLACE) or DOWN");
        for (int up = 0; up < 2; up++) {
            PostBus x = Check.line("-p-p-p-p-", 1, 2, 3, 4, 5, 6, 7, 8, 30);
            x.run(up == 1, 1, 1, 1);
            x.load(0, up == 1 ? 0 : 9, up == 1 ? 9 : 0, 0);
            x.minutes(75);
            Check.look(x, 0, 2, up == 1 ? 8 : 1, 1, 1);
            x.minutes(1);
            // A minute of standing at each of the nine PLACES left, and 66 minutes on the way.
            Check.look(x, 0, 3, up == 1 ? 9 : 0, 0, 0, 0, 11, 76);
            Check.lies(x, 0, 2, 0, 76, 11);
        }
    }

    private static void stretchesByTheirLowerPlace() {
        Check.sentence("a STRETCH, numbered by its lower PLACE");
        for (int stretch = 0; stretch < 3; stretch++) {
            PostBus up = Check.line("ppp", 2, 2, 2);
            up.run(true, 1, 1, 1);
            up.snow(stretch, 1, 100);
            up.minutes(100);
            Check.look(up, 0, 1, stretch);
            PostBus down = Check.line("ppp", 2, 2, 2);
            down.run(false, 1, 1, 1);
            down.snow(stretch, 1, 100);
            down.minutes(100);
            Check.look(down, 0, 1, stretch + 1);
        }
    }

    private static void theFirstAndTheLastArePassing() {
        Check.sentence("the first and the last always are");
        // Whoever is held at an end of the line does not stop the one that comes to it.
        for (int up = 0; up < 2; up++) {
            PostBus x = Check.line("-", 3);
            x.run(up == 1, 1, 1, 1);
            x.run(up == 0, 2, 1, 1);
            Check.text(x, "at " + (1 - up) + " wait 60 when 1;");
            x.minutes(3);
            Check.look(x, 0, 1, 1 - up);
            Check.look(x, 1, 2, up);
            x.minutes(3);
            Check.look(x, 0, 1, 1 - up);
            Check.look(x, 1, 3, 1 - up);
        }
    }

    private static void blockBetweenTwoPassingPlaces() {
        Check.sentence("A BLOCK is the STRETCHES and PLACES between two passing places with none between");
        // One run each way over three STRETCHES: how far they get by minute 2 tells whether they share a BLOCK.
        String[] passing = {"--p", "p-p", "-pp", "ppp"};
        for (String places : passing) {
            PostBus x = Check.line(places, 4, 4, 4);
            x.run(true, 1, 1, 1);
            x.run(false, 1, 1, 1);
            x.minutes(2);
            Check.look(x, 0, 2, 0);
            Check.look(x, 1, places.equals("--p") ? 1 : 2, 3);
            x.minutes(5);
            // In minute 6 each that left stands at the next PLACE; who stands in the middle BLOCK goes on in 7.
            boolean secondGoesOn = places.equals("p-p");
            Check.look(x, 0, secondGoesOn ? 1 : 2, 1);
            Check.look(x, 1, secondGoesOn ? 2 : 1, places.equals("--p") ? 3 : 2);
        }
    }

    private static void theLongestBlock() {
        Check.sentence("A BLOCK is the STRETCHES and PLACES between two passing places");
        for (int up = 0; up < 2; up++) {
            PostBus x = Check.line("---------", 1, 1, 1, 1, 1, 1, 1, 1, 1);
            x.run(up == 1, 1, 1, 1);
            x.run(up == 0, 1, 1, 1);
            x.minutes(18);
            Check.look(x, 0, 2, up == 1 ? 8 : 1);
            Check.look(x, 1, 1, up == 1 ? 9 : 0);
            x.minutes(1);
            Check.look(x, 0, 3, up == 1 ? 9 : 0);
            Check.look(x, 1, 2, up == 1 ? 9 : 0);
            x.minutes(17);
            Check.look(x, 1, 3, up == 1 ? 0 : 9, 0, 0, 0, 0, 36);
        }
    }

    private static void mostRunsAndLoads() {
        Check.sentence("RUNS, 12 at most; LOADS, 80 at most");
        PostBus x = Check.line("---------", 1, 1, 1, 1, 1, 1, 1, 1, 1);
        for (int k = 0; k < 12; k++) {
            x.run(k % 2 == 0, 1 + k, 40, 40);
        }
        for (int k = 0; k < 80; k++) {
            x.load(k % 3, k % 10, (k + 1 + k / 10) % 10, 0);
        }
        StringBuilder text = new StringBuilder();
        for (int k = 0; k < 24; k++) {
            text.append("at ").append(k % 10).append(" wait 2 when people+things;");
        }
        Check.due("24 lines", Check.text(x, text.toString()), 0);
        for (int k = 0; k < 3; k++) {
            x.minutes(200);
        }
        Check.due("runs OVER", x.count(4), 12);
        Check.due("got out", x.count(5), 80);
        Check.due("wait", x.count(6), 0);
    }
}
