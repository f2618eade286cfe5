/** The boundary cases of TYPES, and of when READING looks at a part's type, a sentence at a time. */
public final class TypesBoundaryTest {
    private static final Check check = new Check();
    private static final String[] NUMBER_TERMS = {"1", "9", "n", "l", "m0", "(1)", "((n+1))", "[b:1:2]"};
    private static final String[] TRUTH_TERMS = {"T", "F", "b", "c", "o", "g0", "f1", "h2", "!b", "(b)", "(1<2|c)", "[b:c:o]"};
    private static final String[] NUMBER_SUMS = {"1+2", "n-l-m1", "(1)+[b:1:2]"};
    private static final String[] COMPARISONS = {"1<2", "b=c", "n#l", "1+2=3-n"};
    private static final String[] TRUTH_ROWS = {"b&c", "b|c", "b&1<2|c", "b|c&o"};
    /** What ends every part, whether or not it may stand behind it. */
    private static final String ENDS = "}])(:;{?!@* xTb0g~";

    private static PermitSets used = new PermitSets();
    private static int uses = 0;

    public static void main(String[] args) {
        sums();
        sumsNeedTwoTerms();
        lessOnNumbers();
        sameOnOneType();
        nots();
        ands();
        conditions();
        choiceFront();
        choiceOneType();
        bracketsKeepTheType();
        leftPartAtItsSign();
        leftPartNotBefore();
        leftPartOfSameAndNotSame();
        termWithItsLastByte();
        termNotBefore();
        othersWhenEnded();
        othersBeforeTheByteIsLookedAt();
        othersNotWhereBytesAreMissing();
        othersWhileTheyGoOn();
        firstByteOfThePart();
        check.end();
    }

    private static void sums() {
        check.sentence("TYPES: sums of two or more terms are numbers");
        for (char sign : "+-".toCharArray()) {
            for (String number : NUMBER_TERMS) {
                taken("9<" + number + sign + number);
                taken("9<1" + sign + number + sign + number);
                for (String truth : TRUTH_TERMS) {
                    wrong(truth + sign + number + "=1}", 0);
                    wrong(number + sign + truth + "=1}", number.length() + 1);
                    wrong("1" + sign + number + sign + truth + "=1}", number.length() + 3);
                    wrong(truth + sign + truth + "=1}", 0);
                }
            }
        }
    }

    private static void sumsNeedTwoTerms() {
        check.sentence("TYPES: a sum of one term is of any type");
        for (String truth : TRUTH_TERMS) {
            taken(truth);
            taken(truth + "=" + truth);
        }
        for (String number : NUMBER_TERMS) {
            taken(number + "=" + number);
        }
    }

    private static void lessOnNumbers() {
        check.sentence("TYPES: both sides of < are numbers");
        for (String number : both(NUMBER_TERMS, NUMBER_SUMS)) {
            taken(number + "<" + number);
            for (String truth : TRUTH_TERMS) {
                wrong(number + "<" + truth + "}", number.length() + 1);
                wrong(truth + "<" + number + "}", 0);
            }
        }
        wrong("T<T}", 0);
    }

    private static void sameOnOneType() {
        check.sentence("TYPES: both sides of = and # are of one type; it is the latter part that is wrong");
        for (char sign : "=#".toCharArray()) {
            for (String number : both(NUMBER_TERMS, NUMBER_SUMS)) {
                taken(number + sign + number);
                for (String truth : TRUTH_TERMS) {
                    taken(truth + sign + truth);
                    wrong(number + sign + truth + "}", number.length() + 1);
                    wrong(truth + sign + number + "}", truth.length() + 1);
                }
            }
        }
    }

    private static void nots() {
        check.sentence("TYPES: ! has truths");
        for (String truth : TRUTH_TERMS) {
            taken("!" + truth);
            taken("!!" + truth);
            wrong("1+!" + truth + "=1}", 2);
        }
        for (String number : NUMBER_TERMS) {
            wrong("!" + number + "}", 1);
            wrong("!!" + number + "}", 2);
        }
        wrong("!1<2}", 1);
        wrong("!n+1=2}", 1);
        taken("!(1<2)");
        taken("!b=c");
    }

    private static void ands() {
        check.sentence("TYPES: & and | have truths");
        for (char sign : "&|".toCharArray()) {
            for (String truth : both(TRUTH_TERMS, COMPARISONS)) {
                taken(truth + sign + truth);
                taken(truth + sign + truth + sign + truth);
                for (String number : both(NUMBER_TERMS, NUMBER_SUMS)) {
                    wrong(truth + sign + number + "}", truth.length() + 1);
                    wrong(number + sign + truth + "}", 0);
                    wrong("b" + sign + truth + sign + number + "}", truth.length() + 3);
                    wrong("b" + sign + number + sign + truth + "}", 2);
                }
            }
        }
        wrong("b&1|c}", 2);
        wrong("b|1&c}", 2);
        wrong("b|c&1}", 4);
        wrong("b&c|1}", 4);
    }

    private static void conditions() {
        check.sentence("TYPES: conditions have truths");
        for (String truth : both(both(TRUTH_TERMS, COMPARISONS), TRUTH_ROWS)) {
            answer("+***?{" + truth + "};", 0);
            answer("+***!{" + truth + "};", 0);
        }
        for (String number : both(NUMBER_TERMS, NUMBER_SUMS)) {
            answer("+***?{" + number + "};", -1006);
            answer("+***!{" + number + "};", -1006);
            answer("+***?{b}!{" + number + "};", -1010);
            answer("+***!{b}?{" + number + "};", -1010);
        }
    }

    private static void choiceFront() {
        check.sentence("TYPES: so has [ in front");
        for (String truth : both(both(TRUTH_TERMS, COMPARISONS), TRUTH_ROWS)) {
            taken("[" + truth + ":b:c]");
            taken("[" + truth + ":1:2]=1");
        }
        for (String number : both(NUMBER_TERMS, NUMBER_SUMS)) {
            wrong("[" + number + ":b:c]}", 1);
            wrong("[" + number + ":1:2]=1}", 1);
        }
    }

    private static void choiceOneType() {
        check.sentence("TYPES: its other two are of one type; of these it is the last one that is wrong");
        for (String number : both(NUMBER_TERMS, NUMBER_SUMS)) {
            taken("[b:" + number + ":" + number + "]=1");
            for (String truth : both(both(TRUTH_TERMS, COMPARISONS), TRUTH_ROWS)) {
                taken("[b:" + truth + ":" + truth + "]");
                wrong("[b:" + number + ":" + truth + "]}", number.length() + 4);
                wrong("[b:" + truth + ":" + number + "]}", truth.length() + 4);
            }
            wrong("[b:" + number + ":" + number + "]}", 0);
            wrong("[b:" + number + ":" + number + "]&b}", 0);
        }
        wrong("[b:c:c]+1=1}", 0);
        wrong("[b:c:c]<1}", 0);
    }

    private static void bracketsKeepTheType() {
        check.sentence("TYPES: what is in ( ) is of any type, and so is ( ) then");
        for (String number : both(NUMBER_TERMS, NUMBER_SUMS)) {
            taken("(" + number + ")=1");
            taken("1+(" + number + ")=1");
            wrong("(" + number + ")}", 0);
            wrong("b&(" + number + ")}", 2);
        }
        for (String truth : both(both(TRUTH_TERMS, COMPARISONS), TRUTH_ROWS)) {
            taken("(" + truth + ")");
            taken("(" + truth + ")=b");
            wrong("1+(" + truth + ")=1}", 2);
            wrong("(" + truth + ")<1}", 0);
        }
    }

    private static void leftPartAtItsSign() {
        check.sentence("READING: a left part's type is looked at when the sign behind it (| & < + -) is");
        for (String behind : new String[] {"", "b", "1", "}", ")", "~", "!", "[", "&"}) {
            for (String truth : TRUTH_TERMS) {
                wrong(truth + "+" + behind, 0);
                wrong(truth + "-" + behind, 0);
                wrong(truth + "<" + behind, 0);
                wrong("1<" + truth + "+" + behind, 2);
                wrong("b=" + truth + "-" + behind, 2);
                wrong("(" + truth + "<" + behind, 1);
            }
            for (String number : both(NUMBER_TERMS, NUMBER_SUMS)) {
                wrong(number + "&" + behind, 0);
                wrong(number + "|" + behind, 0);
                wrong("(" + number + "&" + behind, 1);
                wrong("[b:" + number + "|" + behind, 3);
            }
        }
    }

    private static void leftPartNotBefore() {
        check.sentence("READING: (a left part's type is not looked at before the sign behind it)");
        for (String truth : TRUTH_TERMS) {
            missing(truth);
            missing("1<" + truth);
            missing("(" + truth);
        }
        for (String number : both(NUMBER_TERMS, NUMBER_SUMS)) {
            missing(number);
            missing("(" + number);
            missing("[b:" + number);
        }
    }

    private static void leftPartOfSameAndNotSame() {
        check.sentence("READING: (| & < + -): of = and # it is not looked at by itself");
        for (String term : both(NUMBER_TERMS, TRUTH_TERMS)) {
            missing(term + "=");
            missing(term + "#");
            refused(term + "=}", term.length() + 1);
            refused(term + "#)", term.length() + 1);
        }
    }

    private static void termWithItsLastByte() {
        check.sentence("READING: that of a term behind ! + or - when that has ended, with its last byte");
        for (String behind : new String[] {"", "}", "~", "+", "b", "&"}) {
            for (String truth : TRUTH_TERMS) {
                wrong("1+" + truth + behind, 2);
                wrong("1-" + truth + behind, 2);
                wrong("1+n-" + truth + behind, 4);
                wrong("(1+" + truth + behind, 3);
                wrong("[b:1+" + truth + behind, 5);
            }
            for (String number : NUMBER_TERMS) {
                wrong("!" + number + behind, 1);
                wrong("!!" + number + behind, 2);
                wrong("b&!" + number + behind, 3);
                wrong("1+!" + number + behind, 3);
            }
        }
    }

    private static void termNotBefore() {
        check.sentence("READING: (a term behind ! + or - has not ended before its last byte)");
        for (String truth : TRUTH_TERMS) {
            for (int length = 0; length < truth.length(); length++) {
                missing("1+" + truth.substring(0, length));
                missing("1-" + truth.substring(0, length));
            }
        }
        for (String number : NUMBER_TERMS) {
            for (int length = 0; length < number.length(); length++) {
                missing("!" + number.substring(0, length));
            }
        }
        refused("1+g}", 3);
        refused("1+(b}", 4);
        refused("1+[b:c}", 6);
        refused("!m}", 2);
        refused("!m4}", 2);
        refused("!(1}", 3);
    }

    private static void othersWhenEnded() {
        check.sentence("READING: those of other parts behind | & < = #, of the three in [ ] and of conditions when they have ended");
        for (String number : both(NUMBER_TERMS, NUMBER_SUMS)) {
            for (String before : new String[] {"", "b&", "b|", "b=", "b#", "o&b=", "(b|", "[", "[b:c&", "[b:c:"}) {
                everyEnd(before, number);
            }
        }
        for (String truth : TRUTH_TERMS) {
            for (String before : new String[] {"1<", "1=", "1#", "b&n<", "(1+2#", "[b:1:", "[b:n+1:"}) {
                everyEnd(before, truth);
            }
        }
        for (String truth : both(COMPARISONS, TRUTH_ROWS)) {
            everyEnd("[b:1:", truth);
        }
    }

    private static void everyEnd(String before, String part) {
        for (char end : ENDS.toCharArray()) {
            wrong(before + part + end, before.length());
        }
    }

    private static void othersBeforeTheByteIsLookedAt() {
        check.sentence("READING: before it is looked at whether that byte may stand there");
        wrong("b&1)", 2);
        wrong("1<b<", 2);
        wrong("1=b=", 2);
        wrong("b#1<", 2);
        wrong("[1]", 1);
        wrong("[b:c:1}", 5);
        wrong("(b|n]", 3);
        // Where the type is right, it is the byte that is refused.
        refused("b&c)", 3);
        refused("1<2<", 3);
        refused("[b]", 2);
        refused("[b:c:o}", 6);
        refused("(b|c]", 4);
        // The parts in ( ) and the second one in [ ] have no type that would be wrong.
        refused("(1}", 2);
        refused("(1]", 2);
        refused("[b:1]", 4);
        refused("[b:1}", 4);
    }

    private static void othersNotWhereBytesAreMissing() {
        check.sentence("READING: (not where bytes are missing)");
        for (String number : both(NUMBER_TERMS, NUMBER_SUMS)) {
            for (String before : new String[] {"", "b&", "b|", "b=", "b#", "o&b=", "(b|", "[", "[b:c&", "[b:c:"}) {
                missing(before + number);
            }
        }
        for (String truth : TRUTH_TERMS) {
            for (String before : new String[] {"1<", "1=", "1#", "b&n<", "(1+2#", "[b:1:", "[b:n+1:"}) {
                missing(before + truth);
            }
        }
        for (String truth : both(COMPARISONS, TRUTH_ROWS)) {
            missing("[b:1:" + truth);
        }
    }

    private static void othersWhileTheyGoOn() {
        check.sentence("READING: ended before a byte that does not go on with them");
        // Each of these starts as the other type, and comes to be the right one.
        taken("n=1");
        taken("b&n<1");
        taken("b|n+1#2");
        taken("b=(n<1)");
        taken("[n=1:b:c]");
        taken("[b:c:n<1]");
        taken("[b:c:n+l-1=m0|o]");
        taken("[b:(b)=c:n#1]");
        missing("b&1<");
        missing("b|1=");
        missing("b&1+");
        missing("[b:c:1#");
        missing("[b:1:b=");
        missing("[b:1:b&");
        missing("[b:1:b|");
        wrong("[b:1:b=c]", 5);
        wrong("[b:1:b&c]", 5);
        // A side of = or # ends at < = #, & and |, but goes on with + and -.
        wrong("b=1&c}", 2);
        wrong("b=1|c}", 2);
        wrong("b=1+2}", 2);
        missing("b=1+2");
        missing("b=1-");
        wrong("1=b&c}", 2);
        wrong("1<b|c}", 2);
    }

    private static void firstByteOfThePart() {
        check.sentence("READING: -1000 less the place of the first byte of a part whose type is wrong where it stands");
        for (String head : new String[] {"+***", "-@1*@2", "+***?{b}", "+***!{n<l}?{o|h0&!c}"}) {
            for (String number : both(NUMBER_TERMS, NUMBER_SUMS)) {
                answer(head + "?{" + number + "};", -1002 - head.length());
                answer(head + "!{b&" + number + "};", -1004 - head.length());
                answer(head + "?{b|c&" + number + "};", -1006 - head.length());
                answer(head + "?{((b)|" + number + ")};", -1007 - head.length());
                answer(head + "?{b=" + number + "};", -1004 - head.length());
                answer(head + "?{[b:c:" + number + "]};", -1007 - head.length());
            }
        }
        wrong("1+2&b}", 0);
        wrong("n+l-m0|b}", 0);
        wrong("b&(1+2)+3&c}", 2);
        wrong("b|c&n+1&o}", 4);
        wrong("!(1+2)", 1);
        wrong("(b&1)&1}", 3);
    }

    private static String[] both(String[] some, String[] others) {
        String[] all = java.util.Arrays.copyOf(some, some.length + others.length);
        System.arraycopy(others, 0, all, some.length, others.length);
        return all;
    }

    private static void taken(String row) {
        answer("+***?{" + row + "};", 0);
    }

    private static void missing(String row) {
        answer("+***?{" + row, -16 - row.length());
    }

    private static void refused(String row, int place) {
        answer("+***?{" + row, -16 - place);
    }

    private static void wrong(String row, int place) {
        answer("+***?{" + row, -1006 - place);
    }

    private static void answer(String text, int due) {
        if (uses % 16 == 0) {
            used = new PermitSets();
        }
        uses++;
        check.same("add of " + text, Check.add(used, 1, text), due);
        if (due >= 0) {
            check.same("drop of " + text, used.drop(1, 0), 0);
        }
    }
}
