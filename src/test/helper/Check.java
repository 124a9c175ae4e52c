import java.util.NoSuchElementException;
import java.util.function.Supplier;

/** What the tests share: comparing answers, counting the wrong ones, and feeding a text. */
final class Check {
    /** Numbers that no argument with two limits takes: the ends of int, and what a wrapped or cut number makes of 1. */
    static final int[] FAR = {Integer.MIN_VALUE, Integer.MIN_VALUE + 1, -65535, -255, -1, 1025, 65537, 16777217,
        Integer.MAX_VALUE - 1, Integer.MAX_VALUE};

    private static final int THREW = Integer.MIN_VALUE;
    private static int wrong = 0;
    private static int asked = 0;
    private static String sentence = "";

    /** The words of the document that the answers from here on are asked for. */
    static void sentence(String words) {
        sentence = "[" + words + "] ";
    }

    static void due(String call, long got, long want) {
        asked++;
        if (got != want) {
            wrong++;
            System.out.println(sentence + call + " answered " + got + ", due is " + want);
        }
    }

    static void none(String call, int got) {
        due(call, got, PostBus.NONE);
    }

    static void yes(String call, boolean got) {
        due(call, got ? 1 : 0, 1);
    }

    static void no(String call, boolean got) {
        due(call, got ? 1 : 0, 0);
    }

    static void look(PostBus x, int run, int... wanted) {
        for (int what = 0; what < wanted.length; what++) {
            due("minute " + x.count(3) + ": look(" + run + ", " + what + ")", lookOrThrow(x, run, what), wanted[what]);
        }
    }

    static void lies(PostBus x, int load, int... wanted) {
        for (int what = 0; what < wanted.length; what++) {
            due("minute " + x.count(3) + ": lies(" + load + ", " + what + ")", liesOrThrow(x, load, what), wanted[what]);
        }
    }

    static void noLook(PostBus x, int run, int what) {
        due("look(" + run + ", " + what + ") throws", lookOrThrow(x, run, what), THREW);
    }

    static void noLies(PostBus x, int load, int what) {
        due("lies(" + load + ", " + what + ") throws", liesOrThrow(x, load, what), THREW);
    }

    static int lookOrThrow(PostBus x, int run, int what) {
        try {
            return x.look(run, what);
        } catch (NoSuchElementException e) {
            return THREW;
        }
    }

    static int liesOrThrow(PostBus x, int load, int what) {
        try {
            return x.lies(load, what);
        } catch (NoSuchElementException e) {
            return THREW;
        }
    }

    /** All that can be asked of an object, so that a refused call can be seen to have changed nothing. */
    static String all(PostBus x) {
        StringBuilder all = new StringBuilder("takes " + x.takes() + " counts");
        for (int what = 0; what < 10; what++) {
            all.append(' ').append(x.count(what));
        }
        for (int stretch = 0; stretch < x.count(0) - 1; stretch++) {
            all.append(stretch == 0 ? " shut " : " ").append(x.shut(stretch));
        }
        for (int run = 0; run < x.count(1); run++) {
            for (int what = 0; what < 10; what++) {
                all.append(what == 0 ? " run " : " ").append(lookOrThrow(x, run, what));
            }
        }
        for (int load = 0; load < x.count(2); load++) {
            for (int what = 0; what < 4; what++) {
                all.append(what == 0 ? " load " : " ").append(liesOrThrow(x, load, what));
            }
        }
        return all.toString();
    }

    static void unchanged(String before, PostBus x) {
        String after = all(x);
        yes("nothing changes: '" + before + "' became '" + after + "': it", before.equals(after));
    }

    static void goTo(PostBus x, int minute) {
        for (int k = 0; k < 4 && x.count(3) < minute; k++) {
            x.minutes(Math.min(200, minute - x.count(3)));
        }
    }

    /**
     * Tells exactly what a SUM of the text is for run 0 in a minute: it is held at its PLACE until then, and is held
     * further if the SUM is asked to be that value, and leaves if it is asked not to be.
     */
    static void value(Supplier<PostBus> setup, int place, int minute, String sum, int value) {
        PostBus scout = setup.get();
        text(scout, "at " + place + " wait 60 when 1;");
        goTo(scout, minute);
        due("minute " + minute + ": stands at", lookOrThrow(scout, 0, 1), place);
        String until = "at " + place + " wait " + Math.max(1, minute - lookOrThrow(scout, 0, 9)) + " when 1;";
        String number = value < 0 ? "0-" + -value : "" + value;
        String[] tests = {sum + "=" + number, "(" + sum + "=" + number + ")=0"};
        for (int k = 0; k < tests.length; k++) {
            PostBus x = setup.get();
            String rule = until + "at " + place + " wait 60 when " + tests[k] + ";";
            due(rule, text(x, rule), 0);
            goTo(x, minute);
            due("minute " + minute + ": " + rule + " leaves it", lookOrThrow(x, 0, 0), k + 1);
        }
    }

    /** Feeds a text in pieces of 24 signs; the answer of the last feed. */
    static int feed(PostBus x, String text) {
        int answer = x.count(9);
        for (int start = 0; start < text.length(); start += 24) {
            answer = x.feed(eight(text, start), eight(text, start + 8), eight(text, start + 16));
        }
        return answer;
    }

    static int text(PostBus x, String text) {
        feed(x, text);
        return x.text();
    }

    /** The FAULT (or 0) of a text on a line of two PLACES. */
    static void fault(String text, int want) {
        PostBus x = line("p", 5);
        due("text '" + text + "'", text(x, text), want);
        due("signs behind text '" + text + "'", x.count(9), 0);
        due("lines behind text '" + text + "'", x.count(8), want == 0 ? text.split(";", -1).length - 1 : 0);
    }

    private static long eight(String text, int start) {
        long bytes = 0;
        for (int k = start; k < start + 8; k++) {
            bytes = bytes << 8 | (k < text.length() ? text.charAt(k) : 0);
        }
        return bytes;
    }

    /** A line whose stretches take so many minutes each; passing: a sign for each place behind the first, p or -. */
    static PostBus line(String passing, int... minutes) {
        PostBus x = new PostBus();
        for (int k = 0; k < minutes.length; k++) {
            due("place", x.place(minutes[k], passing.charAt(k) == 'p'), k + 1);
        }
        return x;
    }

    static void end() {
        System.out.println(wrong == 0 ? asked + " answers are as due" : wrong + " of " + asked + " are not as due");
        if (wrong != 0) {
            System.exit(1);
        }
    }
}
