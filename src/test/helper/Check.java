import java.util.NoSuchElementException;

/** What the tests share: comparing answers, counting the wrong ones, and feeding a text. */
final class Check {
    private static final int THREW = Integer.MIN_VALUE;
    private static int wrong = 0;
    private static int asked = 0;

    static void due(String call, long got, long want) {
        asked++;
        if (got != want) {
            wrong++;
            System.out.println(call + " answered " + got + ", due is " + want);
        }
    }

    static void yes(String call, boolean got) {
        due(call, got ? 1 : 0, 1);
    }

    static void no(String call, boolean got) {
        due(call, got ? 1 : 0, 0);
    }

    static void look(PostBus x, int run, int... wanted) {
        for (int what = 0; what < wanted.length; what++) {
            due("minute " + x.count(3) + ": look(" + run + ", " + what + ")", lookOrThrow(x, run, what), wanted[what]);
        }
    }

    static void lies(PostBus x, int load, int... wanted) {
        for (int what = 0; what < wanted.length; what++) {
            due("minute " + x.count(3) + ": lies(" + load + ", " + what + ")", liesOrThrow(x, load, what), wanted[what]);
        }
    }

    static void noLook(PostBus x, int run, int what) {
        due("look(" + run + ", " + what + ") throws", lookOrThrow(x, run, what), THREW);
    }

    static void noLies(PostBus x, int load, int what) {
        due("lies(" + load + ", " + what + ") throws", liesOrThrow(x, load, what), THREW);
    }

    static int lookOrThrow(PostBus x, int run, int what) {
        try {
            return x.look(run, what);
        } catch (NoSuchElementException e) {
            return THREW;
        }
    }

    static int liesOrThrow(PostBus x, int load, int what) {
        try {
            return x.lies(load, what);
        } catch (NoSuchElementException e) {
            return THREW;
        }
    }

    /** Feeds a text in pieces of 24 signs; the answer of the last feed. */
    static int feed(PostBus x, String text) {
        int answer = x.count(9);
        for (int start = 0; start < text.length(); start += 24) {
            answer = x.feed(eight(text, start), eight(text, start + 8), eight(text, start + 16));
        }
        return answer;
    }

    static int text(PostBus x, String text) {
        feed(x, text);
        return x.text();
    }

    private static long eight(String text, int start) {
        long bytes = 0;
        for (int k = start; k < start + 8; k++) {
            bytes = bytes << 8 | (k < text.length() ? text.charAt(k) : 0);
        }
        return bytes;
    }

    /** A line whose stretches take so many minutes each; passing: a sign for each place behind the first, p or -. */
    static PostBus line(String passing, int... minutes) {
        PostBus x = new PostBus();
        for (int k = 0; k < minutes.length; k++) {
            due("place", x.place(minutes[k], passing.charAt(k) == 'p'), k + 1);
        }
        return x;
    }

    static void end() {
        System.out.println(wrong == 0 ? asked + " answers are as due" : wrong + " of " + asked + " are not as due");
        if (wrong != 0) {
            System.exit(1);
        }
    }
}
