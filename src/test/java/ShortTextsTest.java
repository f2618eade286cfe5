/**
 * All short texts over the signs that matter, grown byte by byte: the class must answer as the
 * model does, and a text that is refused for a byte or a type is refused for the same, whatever
 * follows, as reading goes from byte to byte and is refused at once.
 */
public final class ShortTextsTest {
    private static final Check check = new Check();
    private static final String HEAD_SIGNS = "+-*034@?!{;";
    private static final String TERM_SIGNS = "1Tmhg0!([)]:}|&<=+;";
    private static final String[] REST = {"}", ";", "1", "T};", "0]:1]&b};", ")|!(b", "\0"};
    /** An object is good for 512 calls, of which a text takes some ten. */
    private static final int TEXTS_OF_AN_OBJECT = 32;

    private static PermitSets x = new PermitSets();
    private static int texts = 0;

    public static void main(String[] args) {
        check.sentence("READING goes from byte to byte, and is refused at once");
        grow("", HEAD_SIGNS, 6);
        grow("+***?{", TERM_SIGNS, 5);
        for (String before : new String[] {"b&", "b|", "n<", "b=", "n+", "!", "(", "[", "[b:", "[b:1:", "[b:b:"}) {
            grow("+***?{" + before, TERM_SIGNS, 4);
        }
        check.end();
    }

    /** Looks at a text and, unless it is refused for more than missing bytes, at all that it may become. */
    private static void grow(String text, String signs, int more) {
        int answer = answer(text);
        check.same("add of " + text, answer, new Model.Reading(text).refusal());
        boolean taken = answer >= 0;
        boolean missing = answer == -10 - text.length();
        if (!taken && !missing) {
            refusedForGood(text, answer);
        } else if (more > 0) {
            for (int i = 0; i < signs.length(); i++) {
                grow(text + signs.charAt(i), signs, more - 1);
            }
        }
    }

    private static void refusedForGood(String text, int answer) {
        for (String rest : REST) {
            check.same("add of " + text + rest, answer(text + rest), answer);
        }
    }

    private static int answer(String text) {
        texts++;
        if (texts % TEXTS_OF_AN_OBJECT == 0) {
            x = new PermitSets();
        }
        int number = Check.add(x, 0, text);
        if (number >= 0) {
            x.drop(0, number);
        }
        return number;
    }
}
