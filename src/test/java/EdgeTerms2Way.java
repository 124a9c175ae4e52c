/** Terms 2, whether the way is free: the BLOCK ahead, the STRETCH ahead, the PLACE at its end. */
public final class EdgeTerms2Way {
    public static void main(String[] args) {
        otherWayInTheBlock();
        sameWayToANarrowPlace();
        sameWayToAPassingPlace();
        farNarrowPlaceOfTheSameWay();
        othersAtTheSamePlace();
        passingEachOther();
        narrowPlaceWithBothWays();
        Check.end();
    }

    /** The line turned round if the one that asks goes down, so that both ways are tried with the same numbers. */
    private static PostBus line(boolean asksUp, String passing) {
        int stretches = passing.length();
        PostBus x = new PostBus();
        for (int k = 0; k < stretches; k++) {
            int place = asksUp ? k + 1 : stretches - 1 - k;
            x.place(5, place > 0 && place < stretches && passing.charAt(place - 1) == 'p');
        }
        return x;
    }

    /** The minute in which the one that asks leaves its first PLACE, if it begins a minute ahead of asking. */
    private static int leaves(String passing, boolean asksUp, boolean sameWay, boolean asksFirst, int asks) {
        PostBus x = line(asksUp, passing);
        if (asksFirst) {
            x.run(asksUp, asks - 1, 1, 1);
        }
        x.run(asksUp == sameWay, 1, 1, 1);
        if (!asksFirst) {
            x.run(asksUp, asks - 1, 1, 1);
        }
        int number = asksFirst ? 0 : 1;
        for (int minute = 1; minute < 100; minute++) {
            x.minutes(1);
            if (x.look(number, 0) == 2) {
                return minute;
            }
        }
        return PostBus.NONE;
    }

    private static void otherWayInTheBlock() {
        Check.sentence("no run of the other way is in that BLOCK (on a STRETCH, at a PLACE that is no passing place)");
        // The other one is at PLACE 3, a passing place, in 13, leaves it in 14, and is OVER in 31.
        for (int side = 0; side < 4; side++) {
            boolean asksFirst = side / 2 == 1;
            for (int asks = 2; asks <= 33; asks++) {
                boolean free = asks < 14 || asks == 14 && asksFirst;
                int due = free ? asks : Math.max(31, asks);
                int got = leaves("--p-p", side % 2 == 1, false, asksFirst, asks);
                Check.due("side " + side + ": asks in " + asks + ", leaves", got, due);
            }
        }
    }

    private static void sameWayToANarrowPlace() {
        Check.sentence("none is on this STRETCH, none stands at the PLACE behind it if that is no passing place");
        // The other one is on the STRETCH from 2, stands at PLACE 1 in 7 and leaves it in 8.
        for (int side = 0; side < 4; side++) {
            boolean asksFirst = side / 2 == 1;
            for (int asks = 2; asks <= 22; asks++) {
                int due = asksFirst && asks == 2 ? 2 : Math.max(asksFirst ? 9 : 8, asks);
                int got = leaves("--p-p", side % 2 == 1, true, asksFirst, asks);
                Check.due("side " + side + ": asks in " + asks + ", leaves", got, due);
            }
        }
    }

    private static void sameWayToAPassingPlace() {
        Check.sentence("none is on this STRETCH, none stands at the PLACE behind it if that is no passing place");
        for (int side = 0; side < 4; side++) {
            boolean asksFirst = side / 2 == 1;
            for (int asks = 2; asks <= 12; asks++) {
                int due = asksFirst && asks == 2 ? 2 : Math.max(7, asks);
                int got = leaves("p-p", side % 2 == 1, true, asksFirst, asks);
                Check.due("side " + side + ": asks in " + asks + ", leaves", got, due);
                got = leaves("p", side % 2 == 1, true, asksFirst, asks);
                Check.due("side " + side + ": to the end of the line: asks in " + asks + ", leaves", got, due);
            }
        }
    }

    private static void farNarrowPlaceOfTheSameWay() {
        Check.sentence("none stands at the PLACE behind it");
        // The first is held for ever at PLACE 2; the second may come as far as PLACE 1, and the third stays behind.
        PostBus x = Check.line("---p", 2, 2, 2, 2);
        x.snow(2, 1, 100);
        x.run(true, 1, 1, 1);
        x.run(true, 2, 1, 1);
        x.run(true, 3, 1, 1);
        x.minutes(100);
        Check.look(x, 0, 1, 2);
        Check.look(x, 1, 1, 1);
        Check.look(x, 2, 1, 0);
        x.minutes(1);
        Check.look(x, 0, 2, 2);
        Check.look(x, 1, 2, 1);
        Check.look(x, 2, 2, 0);
    }

    private static void othersAtTheSamePlace() {
        Check.sentence("none stands at the PLACE behind it");
        // Who stands at the PLACE that is left does not count, passing place or not.
        PostBus x = Check.line("-p", 2, 2);
        x.run(true, 1, 1, 1);
        x.run(true, 1, 1, 1);
        Check.text(x, "at 0 wait 9 when people;");
        x.load(0, 0, 2, 0);
        x.minutes(2);
        Check.look(x, 0, 1, 0, 0, 1);
        Check.look(x, 1, 2, 0);
    }

    private static void passingEachOther() {
        Check.sentence("at a PLACE of it that is no passing place");
        for (int first = 0; first < 2; first++) {
            PostBus x = Check.line("pp", 3, 3);
            x.run(first == 0, 1, 1, 1);
            x.run(first != 0, 1, 1, 1);
            x.minutes(5);
            Check.look(x, 0, 1, 1);
            Check.look(x, 1, 1, 1);
            x.minutes(1);
            Check.look(x, 0, 2, 1);
            Check.look(x, 1, 2, 1);
        }
    }

    private static void narrowPlaceWithBothWays() {
        Check.sentence("no run of the other way is in that BLOCK, none stands at the PLACE behind it");
        // The first waits for snow at PLACE 1: neither way may come up to it while it stands there.
        PostBus x = Check.line("-p", 2, 2);
        x.snow(1, 1, 20);
        x.run(true, 1, 1, 1);
        x.run(true, 2, 1, 1);
        x.run(false, 2, 1, 1);
        x.minutes(20);
        Check.look(x, 0, 1, 1);
        Check.look(x, 1, 1, 0);
        Check.look(x, 2, 1, 2);
        x.minutes(1);
        Check.look(x, 0, 2, 1);
        Check.look(x, 1, 2, 0);
        Check.look(x, 2, 1, 2);
    }
}
