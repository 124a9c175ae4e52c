/** Promise 7, feed: up to 24 signs, the highest byte first, 10 and 32 .. 126 alone, 800 on the TAPE. */
public final class Edge07Feed {
    private static final long BLANKS = 0x2020202020202020L;

    public static void main(String[] args) {
        eachByte();
        eachPosition();
        theHighestFirst();
        leftOutSignsTakeNoPlace();
        leastAndGreatestLongs();
        nothingIsFed();
        behindTheTape();
        whatIsBeyond800();
        theFirstThatFitAreTaken();
        emptyAgain();
        Check.end();
    }

    private static void eachByte() {
        Check.sentence("others than 10 and 32 .. 126 are left out");
        for (int sign = 0; sign < 256; sign++) {
            PostBus x = new PostBus();
            int taken = sign == 10 || sign >= 32 && sign <= 126 ? 1 : 0;
            Check.due("byte " + sign, x.feed((long) sign << 56, 0, 0), taken);
            Check.due("byte " + sign + " in c, the lowest", x.feed(0, 0, sign), 2 * taken);
            Check.due("count(9)", x.count(9), 2 * taken);
        }
    }

    private static void eachPosition() {
        Check.sentence("up to 24 signs, the bytes of a, b, c");
        for (int position = 0; position < 24; position++) {
            PostBus x = new PostBus();
            long[] three = {0, 0, 0};
            three[position / 8] = 'a' * (1L << 56 - 8 * (position % 8));
            Check.due("byte " + position, x.feed(three[0], three[1], three[2]), 1);
        }
        PostBus x = new PostBus();
        Check.due("24 signs", x.feed(BLANKS, BLANKS, BLANKS), 24);
    }

    private static void theHighestFirst() {
        Check.sentence("of each the highest first");
        // The fault tells at which place the sign stands that is no token.
        for (int position = 0; position < 24; position++) {
            PostBus x = new PostBus();
            long[] three = {BLANKS, BLANKS, BLANKS};
            three[position / 8] += ('?' - 32) * (1L << 56 - 8 * (position % 8));
            Check.due("24 signs", x.feed(three[0], three[1], three[2]), 24);
            Check.due("a wrong sign as byte " + position, x.text(), 1 + 16 * position);
        }
    }

    private static void leftOutSignsTakeNoPlace() {
        Check.sentence("others are left out");
        PostBus x = new PostBus();
        Check.due("two signs", x.feed(0x0009200000000000L, 0x7F80FF0B0D1F8AA0L, 0x000000000000003FL), 2);
        Check.due("the second is the wrong one", x.text(), 1 + 16);
    }

    private static void leastAndGreatestLongs() {
        Check.sentence("the bytes of a, b, c");
        PostBus x = new PostBus();
        Check.due("MIN, MAX, -1", x.feed(Long.MIN_VALUE, Long.MAX_VALUE, -1), 0);
        // 0x8A and 0xA0 would be 10 and 32 if the sign bit were lost; 0xFFFFFF0A is -246 as a wide number.
        Check.due("high bits count", x.feed(0x8AA0FEAAC1E18AA0L, 0x8080808080808080L, 0xFFFFFFFFFFFFFFFFL), 0);
        Check.due("a lowest byte below ones", x.feed(0xFFFFFFFFFFFFFF0AL, 0xFFFFFFFFFFFFFF7EL, 0xFFFFFFFF20FFFFFFL), 3);
        Check.due("8 signs of 126", x.feed(0x7E7E7E7E7E7E7E7EL, 0x7F7F7F7F7F7F7F7FL, 0x1F1F1F1F1F1F1F1FL), 11);
    }

    private static void nothingIsFed() {
        Check.sentence("how many there are");
        PostBus x = new PostBus();
        Check.due("nothing on an empty TAPE", x.feed(0, 0, 0), 0);
        Check.due("one", x.feed(0x2000000000000000L, 0, 0), 1);
        Check.due("nothing behind one", x.feed(0, 0, 0), 1);
        Check.due("count(9)", x.count(9), 1);
    }

    private static void behindTheTape() {
        Check.sentence("come behind the TAPE");
        PostBus x = new PostBus();
        x.feed(BLANKS, 0, 0);
        x.feed(0x3F00000000000000L, 0, 0);
        Check.due("the ninth sign is wrong", x.text(), 1 + 16 * 8);
    }

    /** An object with so many blanks on its TAPE. */
    private static PostBus blanks(int signs) {
        PostBus x = new PostBus();
        Check.feed(x, " ".repeat(signs));
        Check.due("blanks", x.count(9), signs);
        return x;
    }

    private static void whatIsBeyond800() {
        Check.sentence("what is beyond 800 is left out");
        PostBus x = blanks(799);
        Check.due("the 800th", x.feed(0x2000000000000000L, 0, 0), 800);
        Check.due("an 801st", x.feed(0x3F00000000000000L, 0, 0), 800);
        Check.due("24 more", x.feed(0x3F3F3F3F3F3F3F3FL, 0x3F3F3F3F3F3F3F3FL, 0x3F3F3F3F3F3F3F3FL), 800);
        Check.due("count(9)", x.count(9), 800);
        Check.due("none of them is on the TAPE", x.text(), 0);
        Check.due("776 and 24", blanks(776).feed(BLANKS, BLANKS, BLANKS), 800);
        Check.due("777 and 24", blanks(777).feed(BLANKS, BLANKS, BLANKS), 800);
    }

    private static void theFirstThatFitAreTaken() {
        Check.sentence("what is beyond 800 is left out");
        PostBus x = blanks(799);
        Check.due("two, of which one fits", x.feed(0x0000003F20000000L, 0, 0), 800);
        Check.due("the first of them is the 800th sign", x.text(), 1 + 16 * 799);
        x = blanks(799);
        Check.due("two, of which one fits", x.feed(0x000000203F000000L, 0, 0), 800);
        Check.due("the second of them is left out", x.text(), 0);
    }

    private static void emptyAgain() {
        Check.sentence("what reads it takes it: it is empty then");
        PostBus x = blanks(800);
        Check.due("text", x.text(), 0);
        Check.due("count(9)", x.count(9), 0);
        Check.due("24 again", x.feed(BLANKS, BLANKS, BLANKS), 24);
        Check.feed(x, " ".repeat(900));
        Check.due("full again", x.count(9), 800);
    }
}
