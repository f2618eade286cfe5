/** The boundary cases of READING but for types, and of promise 9, a sentence at a time. */
public final class ReadingBoundaryTest {
    private static final Check check = new Check();
    private static final int BAD = PermitSets.BAD, FULL = PermitSets.FULL;
    private static final String TERMS = "!([0123456789TFnbcgfhmol";
    private static final String[] OPENERS = {"!", "(", "[", "[b:", "[b:b:"};
    private static final String[] CLOSERS = {"", ")", ":b:b]", ":b]", "]"};

    /** One object serves many texts, as reading leaves nothing behind. */
    private static PermitSets used = new PermitSets();
    private static int uses = 0;

    public static void main(String[] args) {
        nothingThere();
        bytesMissing();
        headBytes();
        conditionBytes();
        termBytes();
        numberedAtoms();
        bytesBehindParts();
        secondSign();
        firstFaultCounts();
        twelveAtoms();
        thirteenthAtom();
        atomsOfAllConditions();
        whatIsNoAtom();
        sixInOneAnother();
        seventhInOneAnother();
        sideBySideIsNotInOneAnother();
        conditionsManyAndNone();
        addNoSuchSet();
        addItsNumber();
        addFull();
        addRefusedBeforeFull();
        addTextStays();
        check.end();
    }

    private static void nothingThere() {
        check.sentence("READING: -10 less the number of bytes when nothing is there");
        PermitSets x = new PermitSets();
        check.same("add(0)", x.add(0), -10);
        check.same("add(1)", x.add(1), -10);
        answer("", -10);
        answer("+", -11);
        answer("-", -11);
    }

    private static void bytesMissing() {
        check.sentence("READING: when bytes are missing, -10 less the number of bytes");
        String[] wholes = {
            "+***;", "-3*@3;", "+@0*3?{T};", "-*2*!{o&!c}?{(n)<9};", "+***?{[h0:m0-1:[b:l:3]+n]#4|f2&g1=(c)};",
            "+***?{((((((b))))))&!!!!!!b&[[[[[[b:b:b]:c:c]:c:c]:c",
        };
        for (String whole : wholes) {
            for (int length = 0; length < whole.length(); length++) {
                answer(whole.substring(0, length), -10 - length);
            }
        }
        for (int i = 0; i < 5; i++) {
            answer(wholes[i], 0);
        }
    }

    private static void headBytes() {
        check.sentence("Terms: + or -; three scopes: * or a digit 0 .. 3 or, but for the deed, @ and a digit 0 .. 3");
        standing("", "+-", "", 0);
        for (String sign : new String[] {"+", "-"}) {
            standing(sign, "*0123@", "", 0);
            standing(sign + "@", "0123", "", 0);
        }
        for (String person : new String[] {"+*", "+0", "+3", "-@0", "+@3"}) {
            standing(person, "*0123", "", 0);
            for (String deed : new String[] {"*", "0", "3"}) {
                standing(person + deed, "*0123@", "", 0);
                standing(person + deed + "@", "0123", "", 0);
            }
        }
    }

    private static void conditionBytes() {
        check.sentence("Terms: some conditions, each ? or ! and braces; then ; as the last byte; nothing stands between");
        for (String head : new String[] {"+***", "-@012", "+3*@3", "+***?{b}", "+***!{b}", "+***?{b}!{c}"}) {
            standing(head, "?!", ";", 0);
            standing(head + "?", "{", "", 0);
            standing(head + "!", "{", "", 0);
            standing(head + ";", "", "", 0);
            standing(head + "?{", TERMS, "", 0);
        }
    }

    private static void termBytes() {
        check.sentence("Terms: a term is ! and a term, ( ), [ ] or an atom");
        String[] before = {
            "", "(", "[", "[b:", "[b:b:", "b&", "b|", "1<", "1=", "b=", "n#", "o#", "b&c&", "b|c|", "b&1<", "(((((", "![b:(",
        };
        for (String part : before) {
            standing("+***?{" + part, TERMS, "", 0);
        }
        // Here a term's type is looked at with its last byte, which is the first one of most atoms.
        String numbers = "0123456789nl";
        String truths = "TFbco";
        standing("+***?{!", "!([TFbcogfhm", numbers, -1007);
        standing("+***?{1+", "!([0123456789nlgfhm", truths, -1008);
        standing("+***?{1-", "!([0123456789nlgfhm", truths, -1008);
    }

    private static void numberedAtoms() {
        check.sentence("Terms: with a digit 0 .. 3 behind: g, f, h, m");
        for (String sign : new String[] {"g", "f", "h", "m"}) {
            standing("+***?{" + sign, "0123", "", 0);
            standing("+***?{(" + sign, "0123", "", 0);
            standing("+***?{b&" + sign, "0123", "", 0);
        }
    }

    private static void bytesBehindParts() {
        check.sentence("READING: -10 less the place of a byte that may not stand where it does");
        for (String truth : new String[] {"b", "T", "g0", "o", "!c", "(1<2)", "[b:b:b]"}) {
            behind("", truth, "&|=#}", "+-<");
            behind("(", truth, "&|=#)", "+-<");
            behind("[", truth, "&|=#:", "+-<");
            behind("[b:", truth, "&|=#:", "+-<");
            behind("[b:b:", truth, "&|=#]", "+-<");
            behind("b&", truth, "&|=#}", "+-<");
            behind("b|", truth, "&|=#}", "+-<");
        }
        for (String number : new String[] {"1", "n", "l", "m0", "(1)", "[b:1:2]"}) {
            behind("(", number, "+-<=#)", "&|");
            behind("[b:", number, "+-<=#:", "&|");
            behind("[b:1:", number, "+-<=#]", "&|");
            behind("1<", number, "+-&|}", "");
            behind("1=", number, "+-&|}", "");
            behind("1#", number, "+-&|}", "");
            behind("1<2+", number, "+-&|}", "");
            behind("(1<", number, "+-&|)", "");
            behind("[1<", number, "+-&|:", "");
            behind("[b:1<", number, "+-&|:", "");
            behind("[b:b:1<", number, "+-&|]", "");
        }
        for (String truth : new String[] {"b", "h3", "!!b", "(b)", "[b:b:b]"}) {
            behind("b=", truth, "&|}", "+-");
            behind("b#", truth, "&|}", "+-");
        }
    }

    /** Behind a part: those that go on, and those for which it is of the wrong type. */
    private static void behind(String before, String part, String mayStand, String wrongType) {
        standing("+***?{" + before + part, mayStand, wrongType, -1006 - before.length());
    }

    private static void secondSign() {
        check.sentence("READING: (a second sign of comparing in one comparison, too)");
        for (char first : "<=#".toCharArray()) {
            for (char second : "<=#".toCharArray()) {
                answer("+***?{1" + first + "2" + second + "3};", -19);
                answer("+***?{1" + first + "2" + second, -19);
                answer("+***?{b&1" + first + "2+n" + second + "b};", -23);
                answer("+***?{(n" + first + "m1" + second + "3)};", -21);
                answer("+***?{[n" + first + "1" + second, -20);
                if (first != '<') {
                    answer("+***?{b" + first + "c" + second + "T};", -19);
                    answer("+***?{b" + first + "!c" + second + "1};", -20);
                }
                answer("+***?{1" + first + "2&1" + second + "2};", 0);
                answer("+***?{1" + first + "2|1" + second + "2};", 0);
                answer("+***?{1" + first + "[1" + second + "2:3:4]};", 0);
            }
        }
        for (char sign : "=#".toCharArray()) {
            answer("+***?{(1<2)" + sign + "(3<4)};", 0);
            answer("+***?{(1<2)" + sign + "(3<4)" + sign + "b};", -27);
        }
    }

    private static void firstFaultCounts() {
        check.sentence("READING: goes from byte to byte, and is refused at once");
        answer("*4*;", -10);
        answer("+4@4;", -11);
        answer("+*@0?{1};", -12);
        answer("+***?{1}x", -1006);
        answer("+***?{b}x?{1};", -18);
        answer("+***?{1<b}?{", -1008);
        answer("+***?{!1+T};", -1007);
        answer("+***?{T+!1};", -1006);
        answer("+***?{b&)1+T};", -18);
        answer("+***?{1+T&)};", -1008);
        answer("+***;?{1};", -15);
    }

    private static void twelveAtoms() {
        check.sentence("Terms: in a policy at most 12 atoms");
        String[] truths = {"T", "F", "b", "c", "o", "g0", "f1", "h2"};
        for (String atom : truths) {
            answer("+***?{" + row(atom, "&", 12) + "};", 0);
            answer("+***?{" + row(atom, "|", 12) + "};", 0);
            answer("+***?{" + row(atom, "&", 13) + "};", -10 - 6 - 12 * (atom.length() + 1));
            answer("+***?{" + row(atom, "|", 13) + "};", -10 - 6 - 12 * (atom.length() + 1));
        }
        String[] numbers = {"0", "9", "n", "l", "m3"};
        for (String atom : numbers) {
            answer("+***?{1<" + row(atom, "+", 11) + "};", 0);
            answer("+***?{1<" + row(atom, "-", 12) + "};", -10 - 8 - 11 * (atom.length() + 1));
        }
    }

    private static void thirteenthAtom() {
        check.sentence("READING: -10 less the place of the first byte of a 13th atom");
        String twelve = "+***?{" + row("b", "&", 12);
        for (char atom : "0123456789TFnbcgfhmol".toCharArray()) {
            answer(twelve + "&" + atom, -10 - twelve.length() - 1);
            answer(twelve + "|" + atom + "0};", -10 - twelve.length() - 1);
            answer(twelve + "&!" + atom, -10 - twelve.length() - 2);
            answer(twelve + "&((((((" + atom, -10 - twelve.length() - 7);
            answer(twelve + "&[" + atom, -10 - twelve.length() - 2);
        }
        // What comes before the atom may still stand, and be missing.
        answer(twelve + "&", -10 - twelve.length() - 1);
        answer(twelve + "&!", -10 - twelve.length() - 2);
        answer(twelve + "&(", -10 - twelve.length() - 2);
        answer(twelve + "&[", -10 - twelve.length() - 2);
        answer(twelve + "&((((((", -10 - twelve.length() - 7);
        answer(twelve + "&(((((((", -10 - twelve.length() - 7);
    }

    private static void atomsOfAllConditions() {
        check.sentence("Terms: in a policy (not in a condition) at most 12 atoms");
        String six = row("b", "&", 6);
        String eleven = row("b", "&", 11);
        for (String full : new String[] {"+***?{" + six + "}!{" + six + "}", "+***?{" + eleven + "}!{b}"}) {
            answer(full + ";", 0);
            answer(full + "?", -10 - full.length() - 1);
            answer(full + "?{", -10 - full.length() - 2);
            answer(full + "?{b};", -10 - full.length() - 2);
            answer(full + "?{!", -10 - full.length() - 3);
            answer(full + "!{!b};", -10 - full.length() - 3);
        }
        answer("+***?{[" + eleven + ":b:b]};", -10 - 7 - 24);
        answer("+***?{[" + row("b", "|", 10) + ":b:b]};", 0);
        PermitSets x = new PermitSets();
        for (int i = 0; i < 3; i++) {
            check.same("each policy has 12 of its own", Check.add(x, 0, "+***?{" + row("b", "&", 12) + "};"), i);
            check.same("after a refused one", Check.add(x, 0, "+***?{" + row("b", "&", 13) + "};"), -40);
        }
    }

    private static void whatIsNoAtom() {
        check.sentence("Terms: digits of scopes and behind g, f, h, m are no atoms of their own");
        String text = "+@0*@1?{g0&g1&g2&g3&f0&f1&f2&f3&h0&h1&h2&h3};";
        answer(text, 0);
        PermitSets x = Check.with(text, "+012;");
        check.same("12 atoms", x.policy(0, 0, 1), 12);
        check.same("no atoms", x.policy(0, 1, 1), 0);
    }

    private static void sixInOneAnother() {
        check.sentence("Terms: of terms in one another by !, ( and [ at most 6");
        for (int shape = 0; shape < 15625; shape++) {
            String opened = opened(shape);
            // Six [ in one another have 12 atoms of their own, and there is one more in the middle.
            if (opened.replaceAll("[^\\[]", "").length() < 6) {
                answer("+***?{" + opened + "b" + closed(shape) + "};", 0);
            }
        }
    }

    private static void seventhInOneAnother() {
        check.sentence("READING: -10 less the place of a seventh !, ( or [ in one another");
        for (int shape = 0; shape < 15625; shape += 7) {
            String opened = "+***?{" + opened(shape);
            for (char seventh : "!([".toCharArray()) {
                answer(opened + seventh, -10 - opened.length());
                answer(opened + seventh + "b", -10 - opened.length());
            }
            answer(opened, -10 - opened.length());
        }
        String five = "+***?{(((((";
        answer(five + "1+(2)=3)))))};", 0);
        answer(five + "(1+(2)=3)))))};", -10 - 14);
        answer(five + "b&!c)))))};", 0);
        answer(five + "(b&!c)))))};", -10 - 14);
        answer(five + "(b|(c))))))};", -10 - 14);
        answer(five + "(1<[b:1:2]))))))};", -10 - 14);
        answer(five + "!!b)))))};", -10 - 12);
    }

    private static void sideBySideIsNotInOneAnother() {
        check.sentence("Terms: terms that have ended have none in them any more");
        String six = "((((((b))))))";
        answer("+***?{" + six + "&" + six + "|" + six + "=" + six + "};", 0);
        answer("+***?{" + six + "}!{" + six + "};", 0);
        answer("+***?{!!!!!!b&!!!!!!c};", 0);
        answer("+***?{[!!!!!b:!!!!!b:!!!!!b]};", 0);
        answer("+***?{[!!!!!!b:b:b]};", -10 - 12);
        answer("+***?{[b:!!!!!!b:b]};", -10 - 14);
        answer("+***?{[b:b:!!!!!!b]};", -10 - 16);
        answer("+***?{[(((((b))))):b:b]&" + six + "};", 0);
        answer("+***?{((((((1))))))+((((((2))))))<((((((3))))))};", 0);
        PermitSets x = new PermitSets();
        check.same("seven, refused", Check.add(x, 0, "+***?{!!!!!!!b};"), -22);
        check.same("six, after it", Check.add(x, 0, "+***?{!!!!!!b};"), 0);
    }

    private static void conditionsManyAndNone() {
        check.sentence("Terms: then some conditions (none, or as many as there are atoms)");
        answer("+***;", 0);
        answer("+***" + "?{b}".repeat(12) + ";", 0);
        answer("+***" + "!{b}".repeat(12) + ";", 0);
        answer("+***" + "?{b}".repeat(13) + ";", -10 - 4 - 48 - 2);
        answer("+***?{};", -16);
        answer("+***!{};", -16);
    }

    private static void addNoSuchSet() {
        check.sentence("Promise 9: BAD when there is no such set");
        PermitSets x = new PermitSets();
        int[] beside = {-1, 2, 3, -2, 256, Integer.MIN_VALUE, Integer.MAX_VALUE};
        for (String text : new String[] {"", "+***;", "+***?{1};", "+***?"}) {
            Check.write(x, text);
            for (int set : beside) {
                check.same("add(" + set + ") of " + text, x.add(set), BAD);
            }
            check.same("the text stays", x.wipe(), text.length());
        }
        check.same("nothing was put", x.size(0) + x.size(1), 0);
        Check.write(x, "+***;");
        check.same("add(0)", x.add(0), 0);
        check.same("add(1)", x.add(1), 0);
    }

    private static void addItsNumber() {
        check.sentence("Promise 9: put behind those of a set: its number there");
        PermitSets x = new PermitSets();
        for (int i = 0; i < 8; i++) {
            check.same("set 0", Check.add(x, 0, "+***?{n<" + i + "};"), i);
            check.same("set 1", Check.add(x, 1, "-***?{n=" + i + "};"), i);
        }
        for (int i = 0; i < 8; i++) {
            check.same("set 0", x.policy(0, i, 3), 256 * i);
            check.same("set 1", x.policy(1, i, 3), 256);
            check.same("set 1", x.ask(1, 4 * i, 1), 1 << i);
        }
    }

    private static void addFull() {
        check.sentence("Promise 9: FULL when the set has 8");
        for (int set = 0; set < 2; set++) {
            PermitSets x = new PermitSets();
            Check.write(x, "+0**;");
            for (int i = 0; i < 8; i++) {
                check.same("the " + i + "th", x.add(set), i);
            }
            Check.write(x, "+1**;");
            check.same("a ninth", x.add(set), FULL);
            check.same("a ninth, again", x.add(set), FULL);
            check.same("size", x.size(set), 8);
            check.same("allows", x.allows(set, 0), 512);
            for (int i = 0; i < 8; i++) {
                check.same("the " + i + "th is as it was", x.policy(set, i, 3), 512);
            }
            check.same("the first is as it was", x.ask(set, 0, 1), 255);
            check.same("the other set has room", x.add(1 - set), 0);
            check.same("drop", x.drop(set, 0), 7);
            check.same("room for one", x.add(set), 7);
            check.same("and no more", x.add(set), FULL);
            check.same("the eighth", x.ask(set, 512, 1), 128);
        }
    }

    private static void addRefusedBeforeFull() {
        check.sentence("Promise 9: what reading is refused for; FULL when the set has 8");
        PermitSets x = new PermitSets();
        Check.write(x, "+0**;");
        for (int i = 0; i < 8; i++) {
            x.add(0);
        }
        check.same("nothing there", Check.add(x, 0, ""), -10);
        check.same("bytes missing", Check.add(x, 0, "+***"), -14);
        check.same("a byte", Check.add(x, 0, "+***}"), -14);
        check.same("a type", Check.add(x, 0, "+***?{1};"), -1006);
        check.same("a good one", Check.add(x, 0, "+***?{T};"), FULL);
        check.same("no such set", x.add(2), BAD);
        for (int i = 0; i < 8; i++) {
            check.same("the " + i + "th is as it was", x.policy(0, i, 3), 512);
        }
    }

    private static void addTextStays() {
        check.sentence("Promise 9: (The text stays.)");
        PermitSets x = new PermitSets();
        Check.write(x, "+***?{b");
        check.same("bytes missing", x.add(0), -17);
        Check.append(x, "};");
        check.same("taken", x.add(0), 0);
        check.same("taken again", x.add(0), 1);
        check.same("in the other set", x.add(1), 0);
        check.same("no such set", x.add(2), BAD);
        Check.append(x, ";");
        check.same("a byte behind", x.add(0), -19);
        check.same("again", x.add(0), -19);
        check.same("wipe", x.wipe(), 10);
        Check.write(x, "+***?{n};");
        check.same("a type", x.add(0), -1006);
        check.same("again", x.add(1), -1006);
        check.same("wipe", x.wipe(), 9);
    }

    /** Of all bytes: those that may stand behind a text, those for which a part's type is wrong; no others may. */
    private static void standing(String before, String mayStand, String wrongType, int dueWrong) {
        for (int sign = 0; sign < 256; sign++) {
            int due = -10 - before.length();
            if (mayStand.indexOf(sign) >= 0) {
                due--;
            } else if (wrongType.indexOf(sign) >= 0) {
                due = dueWrong;
            }
            answer(before + (char) sign, due);
        }
    }

    private static String row(String atom, String sign, int count) {
        return (atom + sign).repeat(count - 1) + atom;
    }

    private static String opened(int shape) {
        StringBuilder text = new StringBuilder();
        for (int rest = shape, i = 0; i < 6; i++, rest /= 5) {
            text.append(OPENERS[rest % 5]);
        }
        return text.toString();
    }

    private static String closed(int shape) {
        StringBuilder text = new StringBuilder();
        for (int rest = shape, i = 0; i < 6; i++, rest /= 5) {
            text.insert(0, CLOSERS[rest % 5]);
        }
        return text.toString();
    }

    private static void answer(String text, int due) {
        if (uses % 16 == 0) {
            used = new PermitSets();
        }
        uses++;
        check.same("add of " + text, Check.add(used, 0, text), due);
        if (due >= 0) {
            check.same("drop of " + text, used.drop(0, 0), 0);
        }
    }
}
