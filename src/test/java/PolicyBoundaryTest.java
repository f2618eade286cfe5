/** The boundary cases of VALUES and SAFE and of promises 10 to 12, a sentence at a time. */
public final class PolicyBoundaryTest {
    private static final Check check = new Check();
    private static final int BAD = PermitSets.BAD, NONE = PermitSets.NONE;
    private static final int[] BESIDE_SETS = {-1, 2, 3, 256, Integer.MIN_VALUE, Integer.MAX_VALUE};
    /** A truth and a number that err for all, as no one has a mark. */
    private static final String ERR = "m0=0", ERR_TERM = "(m0=0)";

    public static void main(String[] args) {
        numbersAtTheirEnds();
        reckonedFromTheLeft();
        lessSameNotSame();
        andLooksOnlyIfItMatters();
        orLooksOnlyIfItMatters();
        choiceLooksOnlyAtWhatItTakes();
        rowsOfThree();
        valueOfWhatIsLeftOut();
        valuesThatWaitedForAnError();
        markThatIsThereOrNot();
        errorOfWhateverLooks();
        errorOfAMarkThatIsNotThere();
        appliesIfScopesHaveIt();
        appliesInOrder();
        errsBeforeOneFails();
        scopesComeFirst();
        safeWithoutMarks();
        safeByWhen();
        safeByAnd();
        safeByOr();
        safeByChoice();
        safeByBrackets();
        safeByNothingElse();
        safeForEachMark();
        dropFirstAndLast();
        dropNoSuch();
        sizeFromNoneToFull();
        sizeNoSuch();
        policyEachWhat();
        policyAtoms();
        policyCounts();
        policyCountsOfNow();
        policyNoSuch();
        policyNoSuchWhat();
        check.end();
    }

    private static void numbersAtTheirEnds() {
        check.sentence("Terms: digits 0 .. 9, n from 0 to 7");
        for (int n = 0; n < 8; n++) {
            applies("n=" + n, 256);
            applies("n<" + n, 256 * n);
        }
        applies("n=8", 0);
        applies("n<8", 2048);
        applies("n<9", 2048);
        applies("0<9", 2048);
        applies("n<0", 0);
        applies("9<8", 0);
        applies("8<9", 2048);
        String nines = "+9".repeat(10);
        applies("9" + nines + "=9", 0);
        applies("9" + nines + "<9", 0);
        applies("9<9" + nines, 2048);
        applies("0" + nines.replace('+', '-') + "<0", 2048);
        applies("0" + nines.replace('+', '-') + "=9", 0);
        applies("9+9+9+9+9+9-9-9-9-9-9=9", 2048);
        applies("0-9-9-9-9-9+9+9+9+9+9=0", 2048);
    }

    private static void reckonedFromTheLeft() {
        check.sentence("Terms: (reckoned from the left)");
        applies("9-5-3=1", 2048);
        applies("9-(5-3)=7", 2048);
        applies("9-5+3=7", 2048);
        applies("9-(5+3)=1", 2048);
        applies("1-2+3-4+5=3", 2048);
        applies("7=n-1+1", 256);
        applies("0-1=0-1", 2048);
        applies("0-1#1", 2048);
    }

    private static void lessSameNotSame() {
        check.sentence("Terms: < = # (less, the same, not the same)");
        applies("4<n", 768);
        applies("n<4", 1024);
        applies("4=n", 256);
        applies("4#n", 1792);
        applies("b=c", 1024);
        applies("b#c", 1024);
        applies("b=T", 1024);
        applies("b#b", 0);
        applies("b=b", 2048);
        applies("(1<2)=T", 2048);
        applies("(2<1)=F", 2048);
        applies("(1=1)=T", 2048);
        applies("(1#1)=F", 2048);
        applies("(1#2)=T", 2048);
        applies("(b=b)=(c=c)", 2048);
    }

    private static void andLooksOnlyIfItMatters() {
        check.sentence("VALUES: & looks at what follows only when what is before is true");
        outcome("T&T", 2048, 0);
        outcome("T&F", 0, 0);
        outcome("F&T", 0, 0);
        outcome("F&F", 0, 0);
        outcome("F&" + ERR, 0, 0);
        outcome("T&" + ERR, 0, 2048);
        outcome(ERR + "&F", 0, 2048);
        outcome(ERR + "&T", 0, 2048);
        outcome("b&" + ERR, 0, 1024);
        outcome("!(F&" + ERR + ")", 2048, 0);
    }

    private static void orLooksOnlyIfItMatters() {
        check.sentence("VALUES: | looks at what follows only when what is before is false");
        outcome("T|T", 2048, 0);
        outcome("T|F", 2048, 0);
        outcome("F|T", 2048, 0);
        outcome("F|F", 0, 0);
        outcome("T|" + ERR, 2048, 0);
        outcome("F|" + ERR, 0, 2048);
        outcome(ERR + "|F", 0, 2048);
        outcome(ERR + "|T", 0, 2048);
        outcome("b|" + ERR, 1024, 1024);
        outcome("!(T|" + ERR + ")", 0, 0);
    }

    private static void choiceLooksOnlyAtWhatItTakes() {
        check.sentence("VALUES: [ ] looks only at what it takes");
        outcome("[T:T:" + ERR + "]", 2048, 0);
        outcome("[T:F:" + ERR + "]", 0, 0);
        outcome("[F:" + ERR + ":T]", 2048, 0);
        outcome("[F:" + ERR + ":F]", 0, 0);
        outcome("[T:" + ERR + ":T]", 0, 2048);
        outcome("[F:T:" + ERR + "]", 0, 2048);
        outcome("[" + ERR + ":T:T]", 0, 2048);
        outcome("[b:1:m0]=1", 1024, 1024);
        outcome("[b:m0:1]=1", 1024, 1024);
        outcome("[b:[c:1:m0]:2]=2", 1024, 512);
        outcome("[b:2:[c:m0:1]]=1", 512, 512);
    }

    private static void rowsOfThree() {
        check.sentence("VALUES: of longer rows, what is before is all that is before");
        outcome("T&F&" + ERR, 0, 0);
        outcome("F&T&" + ERR, 0, 0);
        outcome("T&T&" + ERR, 0, 2048);
        outcome("F&" + ERR + "&" + ERR, 0, 0);
        outcome("F|T|" + ERR, 2048, 0);
        outcome("T|F|" + ERR, 2048, 0);
        outcome("F|F|" + ERR, 0, 2048);
        outcome("T|" + ERR + "|" + ERR, 2048, 0);
        outcome("F&" + ERR + "|T", 2048, 0);
        outcome("F&" + ERR + "|F", 0, 0);
        outcome("F&" + ERR + "|" + ERR, 0, 2048);
        outcome("T&F|T", 2048, 0);
        outcome("T|" + ERR + "&" + ERR, 2048, 0);
        outcome("F|F&" + ERR, 0, 0);
        outcome("F|T&" + ERR, 0, 2048);
        outcome("(T|" + ERR + ")&" + ERR, 0, 2048);
        outcome("(F&" + ERR + ")|" + ERR, 0, 2048);
        outcome("(T|" + ERR + ")&F", 0, 0);
    }

    private static void valueOfWhatIsLeftOut() {
        check.sentence("VALUES: what & | and [ ] do not look at leaves the value, and what is before them, as it is");
        applies("T=(F&T)", 0);
        applies("T=(T&F)", 0);
        applies("F=(F&T)", 2048);
        applies("F=(T|F)", 0);
        applies("T=(T|F)", 2048);
        applies("T=(F|F)", 0);
        applies("9-[T:2:3]=7", 2048);
        applies("9-[F:2:3]=6", 2048);
        applies("9-5-[F&T|b:2:3]=1", 1024);
        applies("b#(c|n<9&F)", 1024);
        applies("1+2+[T|F:[F&T:3:4]:5]+6=9+4", 2048);
    }

    private static void valuesThatWaitedForAnError() {
        check.sentence("VALUES: an error for one request leaves those for others as they are");
        outcome("1+2+[b:m0:2]=5", 1024, 1024);
        outcome("1+2+[b:2:m0]=5", 1024, 1024);
        outcome("9-(5-[c:m0:n])=4+n", 1024, 1024);
        outcome("T=(b|" + ERR + ")", 1024, 1024);
        outcome("1+n=1+[n=7:m0:n]", 1792, 256);
        outcome("1+n=1+[n=0:m0:n]", 1792, 256);
    }

    private static void markThatIsThereOrNot() {
        check.sentence("Terms: h (the person has this mark), which is never an error");
        outcome("h0", 0, 0);
        outcome("!h0", 2048, 0);
        outcome("h0=F", 2048, 0);
        PermitSets x = Check.with("+***?{h0=T};", "+***?{h0#h1};", "+***!{h0};");
        x.mark(1, 0, 0);
        x.mark(2, 0, 7);
        check.same("h0=T", x.policy(0, 0, 3), 1024);
        check.same("h0#h1", x.policy(0, 1, 3), 1024);
        check.same("unless h0", x.policy(0, 2, 3), 1024);
        for (int i = 0; i < 3; i++) {
            check.same("no error", x.policy(0, i, 4), 0);
        }
    }

    private static void errorOfWhateverLooks() {
        check.sentence("VALUES: an ERROR, and so is whatever looks at it");
        String[] looking = {
            "m0=0", "0=m0", "m0#0", "0#m0", "m0<9", "9<m0", "m0+1=1", "1+m0=1", "m0-m0=0", "1-m0<9", "m0=m0", "(m0)=0",
            "!(m0=0)", "!!(m0=0)", "(m0=0)", "(m0=0)=T", "F#(m0=0)", "[m0=0:T:T]", "[T:m0=0:T]", "[F:T:m0=0]", "[T:m0:1]<9",
            "m0=0&T", "m0=0|T", "T&m0=0", "F|m0=0", "[T:" + ERR_TERM + ":F]", "1+(2-(3+(m0)))<9",
        };
        for (String row : looking) {
            outcome(row, 0, 2048);
            errs("+***!{" + row + "};", 0, 2048);
            errs("-***?{" + row + "};", 0, 2048);
        }
    }

    private static void errorOfAMarkThatIsNotThere() {
        check.sentence("VALUES: the number of a mark that the person has not");
        for (int person = 0; person < 4; person++) {
            for (int mark = 0; mark < 4; mark++) {
                PermitSets x = Check.with("+***?{m" + mark + "=0};", "+***?{m" + mark + "#0};");
                x.mark(person, mark, 0);
                check.same("a number that is 0 is there", x.policy(0, 0, 3), 512);
                check.same("the others have none", x.policy(0, 0, 4), 1536);
                check.same("ask", x.ask(0, 512 * person, 1), 1);
                check.same("ask", x.ask(0, 512 * person, 2), 0);
                check.same("ask another", x.ask(0, 512 * (3 - person), 2), 3);
                x.mark(person, mark, -1);
                check.same("not there any more", x.policy(0, 0, 4), 2048);
            }
        }
    }

    private static void appliesIfScopesHaveIt() {
        check.sentence("VALUES: a policy APPLIES to a request if its scopes have it");
        errs("+***;", 2048, 0);
        for (int one = 0; one < 4; one++) {
            errs("+" + one + "**;", 512, 0);
            errs("+*" + one + "*;", 512, 0);
            errs("+**" + one + ";", 512, 0);
            errs("+" + one + one + one + ";", 32, 0);
            errs("+@" + one + "**;", 0, 0);
            errs("+**@" + one + ";", 0, 0);
        }
        PermitSets x = Check.with("+312;");
        check.same("the first that it has", x.allows(0, 1), 3 * 512 + 128 + 2 * 32);
        check.same("the last that it has", x.allows(0, 2), 3 * 512 + 128 + 2 * 32 + 31);
        for (int request : new int[] {0, 31}) {
            check.same("it", x.ask(0, 3 * 512 + 128 + 2 * 32 + request, 1), 1);
            check.same("another person", x.ask(0, 2 * 512 + 128 + 2 * 32 + request, 1), 0);
            check.same("another deed", x.ask(0, 3 * 512 + 2 * 128 + 2 * 32 + request, 1), 0);
            check.same("another thing", x.ask(0, 3 * 512 + 128 + 3 * 32 + request, 1), 0);
        }
    }

    private static void appliesInOrder() {
        check.sentence("VALUES: each WHEN is true and each UNLESS false");
        errs("+***?{T};", 2048, 0);
        errs("+***?{F};", 0, 0);
        errs("+***!{T};", 0, 0);
        errs("+***!{F};", 2048, 0);
        errs("+***?{b}?{c};", 512, 0);
        errs("+***?{b}!{c};", 512, 0);
        errs("+***!{b}!{c};", 512, 0);
        errs("+***?{T}?{T}?{T}?{F};", 0, 0);
        errs("+***?{T}!{F}?{T}!{T};", 0, 0);
        errs("+***" + "?{T}!{F}".repeat(6) + ";", 2048, 0);
        errs("+***" + "?{T}!{F}".repeat(5) + "?{T}!{T};", 0, 0);
        errs("+***" + "?{T}!{F}".repeat(5) + "?{b}!{c};", 512, 0);
    }

    private static void errsBeforeOneFails() {
        check.sentence("VALUES: if an error is met before one fails, it ERRS, and does not apply");
        errs("+***?{" + ERR + "}?{F};", 0, 2048);
        errs("+***?{F}?{" + ERR + "};", 0, 0);
        errs("+***!{T}?{" + ERR + "};", 0, 0);
        errs("+***!{" + ERR + "}!{T};", 0, 2048);
        errs("+***?{T}?{" + ERR + "}?{F};", 0, 2048);
        errs("+***?{T}!{F}!{" + ERR + "};", 0, 2048);
        errs("+***?{b}?{" + ERR + "};", 0, 1024);
        errs("+***?{b}!{c}?{" + ERR + "};", 0, 512);
        errs("+***?{b}?{" + ERR + "}?{c};", 0, 1024);
        errs("+***?{" + ERR + "}?{" + ERR + "};", 0, 2048);
    }

    private static void scopesComeFirst() {
        check.sentence("VALUES: if its scopes have it (else no error is met)");
        errs("+0**?{" + ERR + "};", 0, 512);
        errs("+*1*?{" + ERR + "};", 0, 512);
        errs("+**2?{" + ERR + "};", 0, 512);
        errs("+333?{" + ERR + "};", 0, 32);
        errs("+@0**?{" + ERR + "};", 0, 0);
        errs("+**@0?{" + ERR + "};", 0, 0);
    }

    private static void safeWithoutMarks() {
        check.sentence("SAFE: if each m stands where its mark is known to be there");
        safe("+***;", 1);
        safe("+***?{h0};", 1);
        safe("+***?{m0=0};", 0);
        safe("+***!{m0=0};", 0);
        safe("+***?{h0}?{m0=m0};", 1);
        safe("+***?{h0}?{m0=m1};", 0);
        safe("+***?{h0}?{m1=m0};", 0);
        safe("+***?{F&m0=0};", 0);
        safe("+@0*@0?{F}?{m0=0};", 0);
    }

    private static void safeByWhen() {
        check.sentence("SAFE: known within a condition's alternative row are the marks that the WHENs before it PROVE");
        safe("+***?{h0}?{m0=0};", 1);
        safe("+***?{h0}!{m0=0};", 1);
        safe("+***!{h0}?{m0=0};", 0);
        safe("+***!{!h0}?{m0=0};", 0);
        safe("+***?{m0=0}?{h0};", 0);
        safe("+***?{h0}!{b}?{c}!{o}?{m0=0};", 1);
        safe("+***?{h0}?{h1}?{h2}?{h3}?{m0+m1+m2+m3=0};", 1);
        safe("+***?{h0}?{h1}?{h2}!{h3}?{m0+m1+m2+m3=0};", 0);
        safe("+***?{h0}?{h1}?{m0=m1|m1=m0}!{m1<m0&b};", 1);
        safe("+***?{h0}?{b|m0=0};", 1);
        safe("+***?{h0}?{b&m0=0};", 1);
        safe("+***?{h0}?{b&c&m0=0|o&m0=1};", 1);
        safe("+***?{h0}?{[m0=0:m0:m0]<m0-m0};", 1);
        safe("+***?{h0}?{[b:m0:m0]=m0};", 1);
        safe("+***?{h0}?{!(m0=0)};", 1);
    }

    private static void safeByAnd() {
        check.sentence("SAFE: & all that its sides prove together, and each side also knows what those before it prove");
        safe("+***?{h0&m0=0};", 1);
        safe("+***?{m0=0&h0};", 0);
        safe("+***?{h0&b&m0=0};", 1);
        safe("+***?{b&h0&m0=0};", 1);
        safe("+***?{h0&h1&m0=m1};", 1);
        safe("+***?{h0&m1=0&h1};", 0);
        safe("+***!{h0&m0=0};", 1);
        safe("+***?{h0&h1}?{m0=m1};", 1);
        safe("+***?{b&h0&c}?{m0=0};", 1);
        safe("+***?{b&c&h0}?{m0=0};", 1);
    }

    private static void safeByOr() {
        check.sentence("SAFE: | what each of its sides proves, and no more");
        safe("+***?{h0|m0=0};", 0);
        safe("+***?{!h0|m0=0};", 0);
        safe("+***?{h0|h0}?{m0=0};", 1);
        safe("+***?{h0|h1}?{m0=0};", 0);
        safe("+***?{h1|h0}?{m0=0};", 0);
        safe("+***?{h0|b}?{m0=0};", 0);
        safe("+***?{b|h0}?{m0=0};", 0);
        safe("+***?{h0|h0|b}?{m0=0};", 0);
        safe("+***?{b|h0|h0}?{m0=0};", 0);
        safe("+***?{h0|b|h0}?{m0=0};", 0);
        safe("+***?{h0&h1|h1&h2|h3&h1}?{m1=0};", 1);
        safe("+***?{h0&h1|h1&h0&b}?{m0=m1};", 1);
        safe("+***?{h0&h1|h1}?{m0=0};", 0);
        safe("+***?{F|h0}?{m0=0};", 0);
        safe("+***?{h0&m0=0|m0=0};", 0);
        safe("+***?{h0&m0=0|h0&m0=1};", 1);
        safe("+***?{h0&(b|m0=0)};", 1);
        safe("+***?{h0&(b|h1)&m1=0};", 0);
    }

    private static void safeByChoice() {
        check.sentence("SAFE: [ ] what the first and the second one prove together, as far as the third one proves it, too");
        safe("+***?{[h0:b:h0]}?{m0=0};", 1);
        safe("+***?{[b:h0:h0]}?{m0=0};", 1);
        safe("+***?{[h0:h1:h0]}?{m0=0};", 1);
        safe("+***?{[h0:h1:h1]}?{m1=0};", 1);
        safe("+***?{[h0:h1:h0]}?{m1=0};", 0);
        safe("+***?{[h0:h1:h1]}?{m0=0};", 0);
        safe("+***?{[h0:h1:h0&h1]}?{m0=m1};", 1);
        safe("+***?{[h0:b:c]}?{m0=0};", 0);
        safe("+***?{[b:h0:c]}?{m0=0};", 0);
        safe("+***?{[b:c:h0]}?{m0=0};", 0);
        safe("+***?{[h0:T:F]}?{m0=0};", 0);
        check.sentence("SAFE: its second one also knows what the first one proves");
        safe("+***?{[h0:m0:1]=0};", 1);
        safe("+***?{[h0:1:m0]=0};", 0);
        safe("+***?{[!h0:1:m0]=0};", 0);
        safe("+***?{[m0=0:h0:h0]};", 0);
        safe("+***?{[h0&m0=0:m0=1:b]};", 1);
        safe("+***?{[h0|b:m0=1:b]};", 0);
        safe("+***?{[b:h0:m0=0]};", 0);
        safe("+***?{h0&[b:m0:m0]=0};", 1);
        safe("+***?{h0&[m0=0:b:c]};", 1);
        safe("+***?{[h0:[h1:m0:m0]:2]=0};", 1);
        safe("+***?{[h0:[h1:m1:m0]:2]=0};", 1);
        safe("+***?{[h0:[h1:m0:m1]:2]=0};", 0);
    }

    private static void safeByBrackets() {
        check.sentence("SAFE: ( ) what is in it");
        safe("+***?{(h0)}?{m0=0};", 1);
        safe("+***?{((((((h0))))))}?{m0=0};", 1);
        safe("+***?{(h0)&(m0)=0};", 1);
        safe("+***?{(h0&h1)&m0=m1};", 1);
        safe("+***?{(h0|h1)&m0=0};", 0);
        safe("+***?{b&(c&h0)&m0=0};", 1);
        safe("+***?{([h0:T:h0])&m0=0};", 1);
    }

    private static void safeByNothingElse() {
        check.sentence("SAFE: all else nothing");
        String[] nothing = {
            "!h0", "!!h0", "!(!h0)", "h0=T", "T=h0", "h0#F", "h0=h0", "T", "F", "b", "c", "o", "g0", "f0", "n=0", "l<1",
            "(h0=T)", "h1",
        };
        for (String row : nothing) {
            safe("+***?{" + row + "}?{m0=0};", 0);
            safe("+***?{" + row + "&m0=0};", 0);
            safe("+***?{[" + row + ":m0:1]=0};", 0);
        }
    }

    private static void safeForEachMark() {
        check.sentence("SAFE: h proves its mark");
        for (int has = 0; has < 4; has++) {
            for (int mark = 0; mark < 4; mark++) {
                safe("+***?{h" + has + "}?{m" + mark + "=0};", has == mark ? 1 : 0);
                safe("-***!{h" + has + "&m" + mark + "=0};", has == mark ? 1 : 0);
            }
        }
    }

    private static void dropFirstAndLast() {
        check.sentence("Promise 10: how many it has then; those behind it get one number less");
        for (int set = 0; set < 2; set++) {
            for (int gone = 0; gone < 8; gone++) {
                PermitSets x = new PermitSets();
                for (int i = 0; i < 8; i++) {
                    Check.add(x, set, "+***?{n=" + i + "};");
                    Check.add(x, 1 - set, "+***?{n=" + i + "};");
                }
                check.same("drop", x.drop(set, gone), 7);
                check.same("size", x.size(set), 7);
                check.same("size of the other set", x.size(1 - set), 8);
                for (int n = 0; n < 8; n++) {
                    int due = n == gone ? 0 : n < gone ? 1 << n : 1 << n - 1;
                    check.same("which applies for " + n, x.ask(set, 4 * n, 1), due);
                    check.same("which applies there for " + n, x.ask(1 - set, 4 * n, 1), 1 << n);
                }
                check.same("no eighth one", x.policy(set, 7, 0), BAD);
                check.same("an eighth one again", Check.add(x, set, "-***;"), 7);
                check.same("it is the new one", x.policy(set, 7, 3), 2048);
            }
        }
        PermitSets x = Check.with("+***;", "-***;");
        check.same("one of two", x.drop(0, 1), 1);
        check.same("the only one", x.drop(0, 0), 0);
        check.same("none is left", x.allows(0, 0), 0);
        check.same("the first number again", Check.add(x, 0, "+***;"), 0);
    }

    private static void dropNoSuch() {
        check.sentence("Promise 10: BAD when there is no such policy");
        PermitSets x = Check.with("+0**;", "+1**;");
        for (int i : new int[] {-1, 2, 3, 7, 8, 9, Integer.MIN_VALUE, Integer.MAX_VALUE}) {
            check.same("drop(0, " + i + ")", x.drop(0, i), BAD);
        }
        for (int i = -1; i < 3; i++) {
            check.same("drop(1, " + i + ")", x.drop(1, i), BAD);
            for (int set : BESIDE_SETS) {
                check.same("drop(" + set + ", " + i + ")", x.drop(set, i), BAD);
            }
        }
        check.same("nothing is gone", x.size(0), 2);
        check.same("nothing is gone", x.allows(0, 0), 1024);
        check.same("the last number", x.drop(0, 1), 1);
        check.same("which is none any more", x.drop(0, 1), BAD);
        check.same("the first number", x.drop(0, 0), 0);
        check.same("which is none any more", x.drop(0, 0), BAD);
    }

    private static void sizeFromNoneToFull() {
        check.sentence("Promise 11: how many policies a set has");
        for (int set = 0; set < 2; set++) {
            PermitSets x = new PermitSets();
            for (int i = 0; i < 8; i++) {
                check.same("size", x.size(set), i);
                check.same("size of the other set", x.size(1 - set), 0);
                Check.add(x, set, "+***;");
            }
            check.same("size", x.size(set), 8);
            x.add(set);
            check.same("size after FULL", x.size(set), 8);
            for (int i = 7; i >= 0; i--) {
                x.drop(set, i);
                check.same("size", x.size(set), i);
            }
            x.drop(set, 0);
            check.same("size after BAD", x.size(set), 0);
        }
    }

    private static void sizeNoSuch() {
        check.sentence("Promise 11: NONE when there is no such set");
        PermitSets x = Check.with("+***;");
        for (int set : BESIDE_SETS) {
            check.same("size(" + set + ")", x.size(set), NONE);
        }
        check.same("size(0)", x.size(0), 1);
        check.same("size(1)", x.size(1), 0);
    }

    private static void policyEachWhat() {
        check.sentence("Promise 12: what = 0: 1 if it permits, 0 if it forbids");
        PermitSets x = Check.with("+***;", "-***;", "+***!{T};", "-***!{1-1=1};");
        for (int i = 0; i < 4; i++) {
            check.same("policy(0, " + i + ", 0)", x.policy(0, i, 0), 1 - i % 2);
        }
        check.sentence("Promise 12: what = 2: 1 if it is safe, else 0");
        x = Check.with("+***?{m0=0};", "-***?{h0}?{m0=0};");
        check.same("policy(0, 0, 2)", x.policy(0, 0, 2), 0);
        check.same("policy(0, 1, 2)", x.policy(0, 1, 2), 1);
        for (int person = 0; person < 4; person++) {
            x.mark(person, 0, 0);
        }
        check.same("safe is not what the world is like", x.policy(0, 0, 2), 0);
    }

    private static void policyAtoms() {
        check.sentence("Promise 12: what = 1: its atoms");
        for (int atoms = 0; atoms <= 12; atoms++) {
            PermitSets x = Check.with("+***" + "?{b}".repeat(atoms) + ";", "-***?{T" + "&h0".repeat(Math.max(0, atoms - 1)) + "};");
            check.same("in conditions of their own", x.policy(0, 0, 1), atoms);
            check.same("in one condition", x.policy(0, 1, 1), Math.max(1, atoms));
        }
    }

    private static void policyCounts() {
        check.sentence("Promise 12: 3: to how many requests it applies; 4: for how many it errs");
        errs("+000?{n=0&!b&!c};", 1, 0);
        errs("+333?{n=7&b&c};", 1, 0);
        errs("-***!{n=7&b&c};", 1792 + 192, 0);
        errs("+***?{n=7&b&c&m0=0};", 0, 64);
        errs("+333?{n=7&b&c&m0=0};", 0, 1);
        errs("+000?{n=0&!b&!c&m0=0};", 0, 1);
        errs("+***?{m0=0};", 0, 2048);
        errs("-***;", 2048, 0);
        errs("-***?{F};", 0, 0);
        PermitSets x = Check.with("+***;", "-***;", "+***;");
        check.same("others do not matter", x.policy(0, 2, 3), 2048);
        check.same("others do not matter", x.policy(0, 1, 3), 2048);
    }

    private static void policyCountsOfNow() {
        check.sentence("Promise 12: 3 and 4, of the world as it is then");
        PermitSets x = Check.with("+@0*@0?{m0=l};", "-@0**?{m0=l};");
        x.join(0, 3, 0);
        x.join(2, 3, 0);
        check.same("erring", x.policy(0, 0, 4), 128);
        check.same("erring", x.policy(0, 1, 4), 512);
        x.leave(2, 3, 0);
        check.same("the thing is there no more", x.policy(0, 0, 4), 0);
        check.same("the person is", x.policy(0, 1, 4), 512);
        x.mark(3, 0, 0);
        check.same("no error any more", x.policy(0, 1, 4), 0);
        check.same("applying", x.policy(0, 1, 3), 512);
        x.leave(0, 3, 0);
        check.same("nor the person", x.policy(0, 1, 3), 0);
        check.same("nor the person", x.policy(0, 1, 4), 0);
        x.mark(3, 0, -1);
        check.same("not of it any more", x.policy(0, 1, 4), 0);
    }

    private static void policyNoSuch() {
        check.sentence("Promise 12: BAD when there is no such policy");
        PermitSets x = Check.with("+***;", "+***;");
        for (int what = -1; what < 6; what++) {
            for (int i : new int[] {-1, 2, 3, 7, 8, 9, Integer.MIN_VALUE, Integer.MAX_VALUE}) {
                check.same("policy(0, " + i + ", " + what + ")", x.policy(0, i, what), BAD);
            }
            check.same("policy(1, 0, " + what + ")", x.policy(1, 0, what), BAD);
            for (int set : BESIDE_SETS) {
                check.same("policy(" + set + ", 0, " + what + ")", x.policy(set, 0, what), BAD);
                check.same("policy(" + set + ", 1, " + what + ")", x.policy(set, 1, what), BAD);
            }
        }
        check.same("the last one", x.policy(0, 1, 3), 2048);
        x.drop(0, 0);
        check.same("not the last one any more", x.policy(0, 1, 3), BAD);
        check.same("the last one", x.policy(0, 0, 3), 2048);
    }

    private static void policyNoSuchWhat() {
        check.sentence("Promise 12: BAD when what is none of these");
        PermitSets x = Check.with("+***;");
        int[] due = {1, 0, 1, 2048, 0};
        for (int what = 0; what < 5; what++) {
            check.same("what = " + what, x.policy(0, 0, what), due[what]);
        }
        for (int what : new int[] {-1, 5, 6, 8, 256, Integer.MIN_VALUE, Integer.MAX_VALUE}) {
            check.same("what = " + what, x.policy(0, 0, what), BAD);
        }
    }

    private static void applies(String row, int due) {
        outcome(row, due, 0);
    }

    private static void outcome(String row, int dueApplying, int dueErring) {
        errs("+***?{" + row + "};", dueApplying, dueErring);
    }

    /** Counted for all requests, and asked for the first and the last one where all are alike. */
    private static void errs(String policy, int dueApplying, int dueErring) {
        PermitSets x = Check.with(policy);
        check.same("applying: " + policy, x.policy(0, 0, 3), dueApplying);
        check.same("erring: " + policy, x.policy(0, 0, 4), dueErring);
        for (int request = 0; request < 2048; request += 2047) {
            if (dueApplying % 2048 == 0 && dueErring % 2048 == 0) {
                check.same("ask " + request + ": " + policy, x.ask(0, request, 1), dueApplying / 2048);
                check.same("ask " + request + ": " + policy, x.ask(0, request, 2), dueErring / 2048);
            }
        }
    }

    private static void safe(String policy, int due) {
        check.same("safe: " + policy, Check.with(policy).policy(0, 0, 2), due);
    }
}
