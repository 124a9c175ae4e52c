/** Terms 3, TOKENS: as long as can be, blanks where one likes, WORDS, NUMBERS, seven signs, and all else is none. */
public final class EdgeTerms3Tokens {
    private static final String HEAD = "at 0 wait 1 when ";

    public static void main(String[] args) {
        blanks();
        asLongAsCanBe();
        words();
        eachLetterOfTheWords();
        longerWords();
        numbers();
        longerNumbers();
        aLetterRightBehind();
        signs();
        allElseIsNone();
        Check.end();
    }

    private static void blanks() {
        Check.sentence("blanks (10, 32) between where one likes");
        Check.fault("at0wait1when0;", 0);
        Check.fault("at 0 wait 1 when 0;", 0);
        Check.fault("at\n0\nwait\n1\nwhen\n0\n;\n", 0);
        Check.fault("\n \n at \n 0 \n wait \n 1 \n when \n ( \n 0 \n ) \n < \n 1 \n ; \n ", 0);
        Check.fault("at 0 wait 1 when 0;at 0 wait 1 when 0;", 0);
        Check.fault("at 0 wait 1 when 0;\nat 0 wait 1 when 0;\n", 0);
        Check.fault(HEAD + "up+people-things<late and last=hour and(train 0);", 0);
        Check.fault(HEAD + "up + people - things < late and last = hour and ( train 0 ) ;", 0);
    }

    private static void asLongAsCanBe() {
        Check.sentence("TOKENS, each as long as can be");
        Check.fault(HEAD + "upup;", 1 + 16 * 17);
        Check.fault(HEAD + "u p;", 1 + 16 * 17);
        Check.fault(HEAD + "upand 1;", 1 + 16 * 17);
        Check.fault(HEAD + "1 andup;", 1 + 16 * 19);
        Check.fault(HEAD + "1 2;", 1 + 16 * 19);
        Check.fault("at 0 wait 1 6 when 1;", 1 + 16 * 12);
        Check.fault("at 0 wait 16 when 1;", 0);
        Check.fault("a t 0 wait 1 when 1;", 1);
    }

    private static void words() {
        Check.sentence("WORDS (letters a .. z)");
        Check.fault("At 0 wait 1 when 0;", 1);
        Check.fault("AT 0 wait 1 when 0;", 1);
        Check.fault("atx 0 wait 1 when 0;", 1);
        Check.fault("a 0 wait 1 when 0;", 1);
        Check.fault(HEAD + "peopl;", 1 + 16 * 17);
        Check.fault(HEAD + "peoples;", 1 + 16 * 17);
        Check.fault(HEAD + "up P;", 1 + 16 * 20);
        Check.fault(HEAD + "a;", 1 + 16 * 17);
        Check.fault(HEAD + "z;", 1 + 16 * 17);
        Check.fault(HEAD + "`;", 1 + 16 * 17);
        Check.fault(HEAD + "{;", 1 + 16 * 17);
        String[] parts = {"up", "people", "things", "late", "last", "hour", "train 0"};
        for (String part : parts) {
            Check.fault(HEAD + part + ";", 0);
        }
    }

    private static void eachLetterOfTheWords() {
        Check.sentence("WORDS: at, wait, when, and, up, people, things, late, last, hour, train, and no others");
        String text = "at 0 wait 1 when up and people and things and late and last and hour and train 0;";
        Check.fault(text, 0);
        int start = 0;
        for (int at = 0; at < text.length(); at++) {
            char sign = text.charAt(at);
            start = at > 0 && text.charAt(at - 1) == ' ' ? at : start;
            if (sign >= 'a' && sign <= 'z') {
                Check.fault(text.substring(0, at) + "q" + text.substring(at + 1), 1 + 16 * start);
                Check.fault(text.substring(0, at) + text.substring(at + 1), 1 + 16 * start);
                Check.fault(text.substring(0, at) + "q" + text.substring(at), 1 + 16 * start);
            }
        }
    }

    private static void longerWords() {
        Check.sentence("8 at most; a longer WORD is none, at its first sign");
        Check.fault(HEAD + "abcdefgh;", 1 + 16 * 17);
        Check.fault(HEAD + "abcdefghi;", 1 + 16 * 17);
        Check.fault(HEAD + "1 wednesday;", 1 + 16 * 19);
        // Cut behind the eighth letter it would be two tokens; cut at its end by the TAPE it is still too long.
        Check.fault(HEAD + "1" + " ".repeat(5) + "peopleand;", 1 + 16 * 23);
        Check.fault(HEAD + "trainaaaa 0;", 1 + 16 * 17);
        Check.fault(HEAD + "a".repeat(783), 1 + 16 * 17);
    }

    private static void numbers() {
        Check.sentence("NUMBERS (1 to 4 digits)");
        Check.fault(HEAD + "0;", 0);
        Check.fault(HEAD + "10;", 0);
        Check.fault(HEAD + "100;", 0);
        Check.fault(HEAD + "9999;", 0);
        Check.fault(HEAD + "0000;", 0);
        Check.fault("at 0000 wait 0060 when train 0007;", 0);
        Check.fault("at 0001 wait 0001 when train 0000;", 0);
        Check.fault(HEAD + "/;", 1 + 16 * 17);
        Check.fault(HEAD + ":;", 1 + 16 * 17);
    }

    private static void longerNumbers() {
        Check.sentence("a longer NUMBER is none, at its first sign");
        Check.fault(HEAD + "12345;", 1 + 16 * 17);
        Check.fault(HEAD + "00000;", 1 + 16 * 17);
        Check.fault("at 00000 wait 1 when 1;", 1 + 16 * 3);
        Check.fault("at 0 wait 00001 when 1;", 1 + 16 * 10);
        Check.fault(HEAD + "train 00007;", 1 + 16 * 23);
        Check.fault(HEAD + "99999999999999999999;", 1 + 16 * 17);
        // 4294967296 and the like would wrap to small numbers.
        Check.fault("at 4294967296 wait 1 when 1;", 1 + 16 * 3);
        Check.fault("at 0 wait 4294967297 when 1;", 1 + 16 * 10);
    }

    private static void aLetterRightBehind() {
        Check.sentence("a letter may stand right behind");
        Check.fault("at 0wait 60when up;", 0);
        Check.fault(HEAD + "1<2and 2=2;", 0);
        Check.fault(HEAD + "9999and 1;", 0);
        Check.fault(HEAD + "train0007and train7and 1;", 0);
        Check.fault(HEAD + "12345and 1;", 1 + 16 * 17);
        Check.fault(HEAD + "1x;", 1 + 16 * 18);
    }

    private static void signs() {
        Check.sentence("the signs ( ) < = + - and the semicolon");
        Check.fault(HEAD + "(1)<(2)and(1)=(1)and(1)+(1)-(1);", 0);
        Check.fault("(", 1);
        Check.fault(")", 1);
        Check.fault("<", 1);
        Check.fault("=", 1);
        Check.fault("+", 1);
        Check.fault("-", 1);
        Check.fault(";", 1);
    }

    private static void allElseIsNone() {
        Check.sentence("All else is none");
        for (char sign = 33; sign <= 126; sign++) {
            boolean known = "()<=+-;".indexOf(sign) >= 0 || sign >= '0' && sign <= '9' || sign >= 'a' && sign <= 'z';
            if (!known) {
                Check.fault("" + sign, 1);
                Check.fault(HEAD + "1" + sign, 1 + 16 * 18);
                Check.fault(HEAD + "1 " + sign + " 2;", 1 + 16 * 19);
                Check.fault(HEAD + "1;" + sign, 1 + 16 * 19);
            }
        }
    }
}
