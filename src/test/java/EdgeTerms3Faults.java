/** Terms 3, FAULTS: the first wrong token from the left, its least kind, the end as a token. */
public final class EdgeTerms3Faults {
    private static final String HEAD = "at 0 wait 1 when ";
    private static final String LINE = HEAD + "0;";

    public static void main(String[] args) {
        theEndIsOne();
        whatStandsInALine();
        whatStandsInAPart();
        whatStandsBehindAPart();
        notAPlace();
        notOneToSixtyMinutes();
        notATrain();
        a25thLine();
        aPartWithinFiveOthers();
        theFirstFromTheLeft();
        theLeast();
        Check.end();
    }

    private static void theEndIsOne() {
        Check.sentence("the end being one at the text's length");
        Check.fault("", 0);
        Check.fault(" ", 0);
        Check.fault("at", 1 + 16 * 2);
        Check.fault("  at  ", 1 + 16 * 6);
        // Cut behind any token of a line, the end can't stand there.
        String[] tokens = {"at", "0", "wait", "1", "when", "(", "train", "2", ")", "<", "1", "and", "up", "-", "1"};
        StringBuilder text = new StringBuilder();
        for (String token : tokens) {
            text.append(token).append(' ');
            Check.fault(text.toString(), 1 + 16 * text.length());
        }
        Check.fault(text + ";", 0);
        Check.fault(text + "; ", 0);
        Check.fault(text + "; at", 1 + 16 * (text.length() + 4));
    }

    private static void whatStandsInALine() {
        Check.sentence("1 it can't stand there: at N wait N when E ;");
        String[] line = {"at", "0", "wait", "1", "when", "1", ";"};
        String[] all = {"at", "wait", "when", "and", "up", "people", "things", "late", "last", "hour", "train", "1", "(",
            ")", "<", "=", "+", "-", ";", "word", "?"};
        for (int where = 0; where < line.length; where++) {
            StringBuilder ahead = new StringBuilder();
            for (int k = 0; k < where; k++) {
                ahead.append(line[k]).append(' ');
            }
            for (String token : all) {
                if (!mayStand(where, token)) {
                    Check.fault(ahead + token, 1 + 16 * ahead.length());
                }
            }
        }
    }

    private static boolean mayStand(int where, String token) {
        switch (where) {
            case 0: return token.equals("at");
            case 2: return token.equals("wait");
            case 4: return token.equals("when");
            case 5: return "up people things late last hour train 1 (".contains(token);
            case 6: return "< = + - ; and".contains(token);
            default: return token.equals("1");
        }
    }

    private static void whatStandsInAPart() {
        Check.sentence("1 it can't stand there: a PART");
        String[] ahead = {"1+", "1-", "1<", "1=", "1 and ", "(", "((1)+", "up+", "train 0 and "};
        String[] wrong = {")", ";", "<", "=", "+", "-", "and", "at", "wait", "when", "word", "?", ""};
        for (String first : ahead) {
            for (String token : wrong) {
                Check.fault(HEAD + first + token, 1 + 16 * (17 + first.length()));
            }
        }
        Check.fault(HEAD + "train;", 1 + 16 * 22);
        Check.fault(HEAD + "train up;", 1 + 16 * 23);
        Check.fault(HEAD + "train (1);", 1 + 16 * 23);
        Check.fault(HEAD + "train train 1;", 1 + 16 * 23);
    }

    private static void whatStandsBehindAPart() {
        Check.sentence("1 it can't stand there: behind a PART, a SUM, a TEST");
        String[] parts = {"1", "up", "train 7", "(1)", "1+1", "1 and 1"};
        String[] wrong = {"(", ")", "1", "up", "train", "at", "wait", "when", "word", "?", ""};
        for (String part : parts) {
            for (String token : wrong) {
                Check.fault(HEAD + part + " " + token, 1 + 16 * (18 + part.length()));
            }
        }
        // A TEST has one < or =, an E in brackets is a PART again.
        Check.fault(HEAD + "1 < 2 < 3;", 1 + 16 * 23);
        Check.fault(HEAD + "1 = 2 = 3;", 1 + 16 * 23);
        Check.fault(HEAD + "1 < 2 = 3;", 1 + 16 * 23);
        Check.fault(HEAD + "1 = 2 < 3;", 1 + 16 * 23);
        Check.fault(HEAD + "(1 < 2) < 3 and 1 = 2;", 0);
        Check.fault(HEAD + "(1;", 1 + 16 * 19);
        Check.fault(HEAD + "(1 and 2;", 1 + 16 * 25);
        Check.fault(LINE + ";", 1 + 16 * 19);
        Check.fault(LINE + "1", 1 + 16 * 19);
    }

    private static void notAPlace() {
        Check.sentence("4 a NUMBER that is not as told: the first N is a PLACE");
        Check.fault("at 1 wait 1 when 0;", 0);
        Check.fault("at 2 wait 1 when 0;", 4 + 16 * 3);
        Check.fault("at 9999 wait 1 when 0;", 4 + 16 * 3);
        Check.fault("at 2", 4 + 16 * 3);
        Check.fault(LINE + "at 2", 4 + 16 * 22);
    }

    private static void notOneToSixtyMinutes() {
        Check.sentence("4 a NUMBER that is not as told: the second 1 to 60 minutes");
        Check.fault("at 0 wait 1 when 0;", 0);
        Check.fault("at 0 wait 60 when 0;", 0);
        Check.fault("at 0 wait 0 when 0;", 4 + 16 * 10);
        Check.fault("at 0 wait 61 when 0;", 4 + 16 * 10);
        Check.fault("at 0 wait 0000 when 0;", 4 + 16 * 10);
        Check.fault("at 0 wait 9999 when 0;", 4 + 16 * 10);
        Check.fault("at 0 wait 257 when 0;", 4 + 16 * 10);
    }

    private static void notATrain() {
        Check.sentence("4 a NUMBER that is not as told: that of train 0 .. 7");
        Check.fault(HEAD + "train 0;", 0);
        Check.fault(HEAD + "train 7;", 0);
        Check.fault(HEAD + "train 8;", 4 + 16 * 23);
        Check.fault(HEAD + "train 9999;", 4 + 16 * 23);
        Check.fault(HEAD + "train 8 ?", 4 + 16 * 23);
        Check.fault(HEAD + "8;", 0);
        Check.fault(HEAD + "9999 and 0 < 8;", 0);
    }

    private static void a25thLine() {
        Check.sentence("5 a 25th line (at its first token)");
        String lines = LINE.repeat(24);
        Check.fault(lines, 0);
        Check.fault(lines + "\n", 0);
        Check.fault(lines + "at", 5 + 16 * 456);
        Check.fault(lines + " at", 5 + 16 * 457);
        Check.fault(lines + LINE, 5 + 16 * 456);
        Check.fault(lines + LINE + LINE, 5 + 16 * 456);
        Check.fault(lines + "at 9999", 5 + 16 * 456);
        Check.fault(LINE.repeat(23) + "at 9", 4 + 16 * 440);
    }

    private static void aPartWithinFiveOthers() {
        Check.sentence("5 a PART within 5 others; 5 within one another");
        String[] parts = {"1", "9999", "up", "people", "things", "late", "last", "hour", "train 0", "(1)"};
        for (String part : parts) {
            // The brackets are PARTS: with four of them a plain PART is the fifth.
            boolean deeper = part.equals("(1)");
            Check.fault(HEAD + "((((" + part + "))));", deeper ? 5 + 16 * 22 : 0);
            Check.fault(HEAD + "(((((" + part + ")))));", 5 + 16 * 22);
        }
        Check.fault(HEAD + "(((1)));", 0);
        Check.fault(HEAD + "((((((1))))));", 5 + 16 * 22);
        Check.fault(HEAD + "((((train 1 + (1)))));", 5 + 16 * 32);
        Check.fault(HEAD + "((((1 and 2 < 3 + 4))));", 0);
        // Side by side they are not within one another.
        Check.fault(HEAD + "((((1))))+((((2))))-((((3)))) and ((((4))))=((((5))));", 0);
        Check.fault(HEAD + "((((1)+(2))+(3))+(4))+(5);", 0);
        Check.fault(HEAD + "((((1))+(2))+((3)+((4))));", 0);
        Check.fault(HEAD + "((((1))+(2))+((3)+(((4)))));", 5 + 16 * 38);
    }

    private static void theFirstFromTheLeft() {
        Check.sentence("of the first token from the left that is wrong");
        Check.fault("at 9 wait 0 when train 8 ?", 4 + 16 * 3);
        Check.fault("at 0 wait 0 when train 8 ?", 4 + 16 * 10);
        Check.fault("at 0 wait 1 when train 8 ?", 4 + 16 * 23);
        Check.fault("at 0 wait 1 when train 7 ?", 1 + 16 * 25);
        Check.fault("? at 9", 1);
        Check.fault("at ? 9", 1 + 16 * 3);
        Check.fault("at 9 ?", 4 + 16 * 3);
        Check.fault(LINE.repeat(24) + "at 9 ?", 5 + 16 * 456);
        Check.fault(HEAD + "(((((1 ?", 5 + 16 * 22);
    }

    private static void theLeast() {
        Check.sentence("of the first token that is wrong the least");
        String lines = LINE.repeat(24);
        Check.fault(lines + "when", 1 + 16 * 456);
        Check.fault(lines + "?", 1 + 16 * 456);
        Check.fault(lines + ";", 1 + 16 * 456);
        Check.fault(lines + "12345", 1 + 16 * 456);
        Check.fault(HEAD + "((((()))));", 1 + 16 * 22);
        Check.fault(HEAD + "(((((and", 1 + 16 * 22);
        Check.fault(HEAD + "(((((", 1 + 16 * 22);
        Check.fault(HEAD + "(((((12345", 1 + 16 * 22);
        Check.fault(HEAD + "(((((?", 1 + 16 * 22);
        Check.fault(HEAD + "(((((train 8", 5 + 16 * 22);
        Check.fault("at 99999 wait", 1 + 16 * 3);
    }
}
