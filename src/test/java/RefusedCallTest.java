/**
 * A refused call changes nothing, and neither does a question: an object that was asked is held against
 * one that was not, in three states: new, in use, and full.
 */
public final class RefusedCallTest {
    private static final Check check = new Check();
    private static final int[] BESIDE_FOUR = {-1, 4, 5, 32, Integer.MIN_VALUE, Integer.MAX_VALUE};
    private static final int[] BESIDE_NUMBERS = {-2, 8, 9, Integer.MIN_VALUE, Integer.MAX_VALUE};
    private static final int[] BESIDE_SETS = {-1, 2, 3, Integer.MIN_VALUE, Integer.MAX_VALUE};
    private static final int[] BESIDE_THREE = {-1, 3, 4, Integer.MIN_VALUE, Integer.MAX_VALUE};
    private static final int[] BESIDE_COUNTS = {-1, 0, 9, 10, Integer.MIN_VALUE, Integer.MAX_VALUE};
    private static final int BAD = PermitSets.BAD, FULL = PermitSets.FULL, NONE = PermitSets.NONE;

    /** 160 bytes, as many as the text can have. */
    private static final String LONGEST = "+***?{" + "((((((b))))))&".repeat(10) + "(((((g0)))))};";

    private interface Call {
        int on(PermitSets x);
    }

    private interface Truth {
        boolean on(PermitSets x);
    }

    private enum State { NEW, IN_USE, FULL }

    private State state;
    private String untouched;

    public static void main(String[] args) {
        for (State state : State.values()) {
            RefusedCallTest test = new RefusedCallTest();
            test.state = state;
            test.untouched = Fingerprint.of(object(state));
            test.memberships();
            test.circles();
            test.marks();
            test.things();
            test.puts();
            test.adds();
            test.policies();
            test.requests();
            test.questions();
        }
        readingThatIsRefused();
        check.end();
    }

    private static PermitSets object(State state) {
        PermitSets x = new PermitSets();
        if (state != State.NEW) {
            inhabit(x);
            int policies = state == State.FULL ? 8 : 3;
            for (int i = 0; i < policies; i++) {
                Check.add(x, 0, (i == 1 ? "-" : "+") + i % 4 + "**?{n<" + i + "|m1=n};");
                Check.add(x, 1, "+@1*@" + i % 4 + "?{h" + i % 4 + "}!{l=" + i + "};");
            }
            Check.write(x, state == State.FULL ? LONGEST : LONGEST.substring(0, 153));
        }
        return x;
    }

    /** Groups 0 in 1 in 2, folders 3 in 2 in 1, and some in each; marks and levels at both ends. */
    private static void inhabit(PermitSets x) {
        x.join(1, 0, 1);
        x.join(1, 1, 2);
        x.join(3, 3, 2);
        x.join(3, 2, 1);
        x.join(0, 0, 0);
        x.join(0, 3, 3);
        x.join(2, 0, 3);
        x.join(2, 3, 0);
        x.mark(0, 0, 0);
        x.mark(0, 1, 7);
        x.mark(3, 3, 4);
        x.mark(2, 1, 1);
        x.thing(0, 7, 3);
        x.thing(3, 1, 2);
    }

    private void memberships() {
        for (int kind = 0; kind < 4; kind++) {
            int k = kind;
            for (int beside : BESIDE_FOUR) {
                refused("join(" + k + ", " + beside + ", 1)", x -> x.join(k, beside, 1));
                refused("join(" + k + ", 1, " + beside + ")", x -> x.join(k, 1, beside));
                refused("leave(" + k + ", " + beside + ", 1)", x -> x.leave(k, beside, 1));
                refused("leave(" + k + ", 0, " + beside + ")", x -> x.leave(k, 0, beside));
            }
            refused("leave(" + k + ", 1, 0), in which it is not", x -> x.leave(k, 1, 0));
        }
        for (int beside : BESIDE_FOUR) {
            refused("join(" + beside + ", 1, 0)", x -> x.join(beside, 1, 0));
            refused("leave(" + beside + ", 0, 1)", x -> x.leave(beside, 0, 1));
        }
    }

    private void circles() {
        for (int kind = 1; kind < 4; kind += 2) {
            int k = kind;
            for (int one = 0; one < 4; one++) {
                int o = one;
                refused("join(" + k + ", " + o + ", " + o + ")", x -> x.join(k, o, o));
            }
        }
        if (state != State.NEW) {
            refused("join(1, 1, 0), which is in 1", x -> x.join(1, 1, 0));
            refused("join(1, 2, 0), which is in 1, in 2", x -> x.join(1, 2, 0));
            refused("join(3, 1, 3), which is in 2, in 1", x -> x.join(3, 1, 3));
            refused("leave(1, 0, 2), in which it is by 1 alone", x -> x.leave(1, 0, 2));
            refused("leave(0, 0, 1), in which it is by 0 alone", x -> x.leave(0, 0, 1));
            refused("leave(2, 0, 2), in which it is by 3 alone", x -> x.leave(2, 0, 2));
            same("join(1, 0, 1), where it is", x -> x.join(1, 0, 1) ? 1 : 0, 1);
            same("join(0, 0, 0), where it is", x -> x.join(0, 0, 0) ? 1 : 0, 1);
        }
    }

    private void marks() {
        for (int beside : BESIDE_FOUR) {
            refused("mark(" + beside + ", 0, 3)", x -> x.mark(beside, 0, 3));
            refused("mark(0, " + beside + ", 3)", x -> x.mark(0, beside, 3));
            refused("mark(" + beside + ", 0, -1)", x -> x.mark(beside, 0, -1));
            refused("mark(0, " + beside + ", -1)", x -> x.mark(0, beside, -1));
        }
        for (int beside : BESIDE_NUMBERS) {
            refused("mark(0, 0, " + beside + ")", x -> x.mark(0, 0, beside));
            refused("mark(3, 3, " + beside + ")", x -> x.mark(3, 3, beside));
        }
        same("mark(1, 2, -1) of one that it has not", x -> x.mark(1, 2, -1) ? 1 : 0, 1);
    }

    private void things() {
        for (int beside : BESIDE_FOUR) {
            refused("thing(" + beside + ", 3, 1)", x -> x.thing(beside, 3, 1));
            refused("thing(0, 3, " + beside + ")", x -> x.thing(0, 3, beside));
        }
        for (int beside : BESIDE_NUMBERS) {
            refused("thing(0, " + beside + ", 1)", x -> x.thing(0, beside, 1));
            refused("thing(3, " + beside + ", 1)", x -> x.thing(3, beside, 1));
        }
        refused("thing(0, -1, 1)", x -> x.thing(0, -1, 1));
    }

    private void puts() {
        for (int n : BESIDE_COUNTS) {
            same("put(0, " + n + ")", x -> x.put(0, n), BAD);
        }
        if (state == State.IN_USE) {
            same("put(0, 8) behind 153", x -> x.put(0, 8), FULL);
        }
        for (int n = 1; state == State.FULL && n <= 8; n++) {
            int some = n;
            same("put(0, " + n + ") behind 160", x -> x.put(0, some), FULL);
        }
    }

    private void adds() {
        for (int set : BESIDE_SETS) {
            same("add(" + set + ")", x -> x.add(set), BAD);
        }
        int due = state == State.NEW ? -10 : state == State.IN_USE ? -10 - 153 : FULL;
        same("add(0)", x -> x.add(0), due);
        same("add(1)", x -> x.add(1), due);
    }

    private void policies() {
        int size = state == State.NEW ? 0 : state == State.IN_USE ? 3 : 8;
        int[] besideNumbers = {-1, size, size + 1, 8, 9, Integer.MIN_VALUE, Integer.MAX_VALUE};
        for (int set = 0; set < 2; set++) {
            int s = set;
            for (int i : besideNumbers) {
                same("drop(" + s + ", " + i + ")", x -> x.drop(s, i), BAD);
                same("needless(" + s + ", " + i + ")", x -> x.needless(s, i), BAD);
                for (int what = 0; what < 5; what++) {
                    int w = what;
                    same("policy(" + s + ", " + i + ", " + w + ")", x -> x.policy(s, i, w), BAD);
                }
            }
            same("policy(" + s + ", 0, -1)", x -> x.policy(s, 0, -1), BAD);
            same("policy(" + s + ", 0, 5)", x -> x.policy(s, 0, 5), BAD);
        }
        for (int set : BESIDE_SETS) {
            same("drop(" + set + ", 0)", x -> x.drop(set, 0), BAD);
            same("size(" + set + ")", x -> x.size(set), NONE);
            same("policy(" + set + ", 0, 0)", x -> x.policy(set, 0, 0), BAD);
            same("needless(" + set + ", 0)", x -> x.needless(set, 0), BAD);
        }
    }

    private void requests() {
        for (int beside : BESIDE_THREE) {
            same("ask(0, 0, " + beside + ")", x -> x.ask(0, 0, beside), BAD);
            same("allows(0, " + beside + ")", x -> x.allows(0, beside), BAD);
            same("compare(" + beside + ")", x -> x.compare(beside), BAD);
        }
        for (int set : BESIDE_SETS) {
            same("ask(" + set + ", 0, 0)", x -> x.ask(set, 0, 0), BAD);
            same("allows(" + set + ", 0)", x -> x.allows(set, 0), BAD);
        }
        for (int what = 0; what < 3; what++) {
            int w = what;
            same("ask(0, -1, " + w + ")", x -> x.ask(0, -1, w), BAD);
            same("ask(0, 2048, " + w + ")", x -> x.ask(0, 2048, w), BAD);
            same("ask(1, " + Integer.MAX_VALUE + ", " + w + ")", x -> x.ask(1, Integer.MAX_VALUE, w), BAD);
            same("ask(1, " + Integer.MIN_VALUE + ", " + w + ")", x -> x.ask(1, Integer.MIN_VALUE, w), BAD);
        }
    }

    /** Questions with good arguments: what they answer is looked at by other tests. */
    private void questions() {
        for (int of = 0; of < 5; of++) {
            int o = of;
            asked("policy(0, 0, " + o + ")", x -> x.policy(0, 0, o));
            asked("policy(1, 2, " + o + ")", x -> x.policy(1, 2, o));
            asked("ask(0, " + 511 * o + ", " + o % 3 + ")", x -> x.ask(0, 511 * o, o % 3));
            asked("ask(1, " + 511 * o + ", " + o % 3 + ")", x -> x.ask(1, 511 * o, o % 3));
            asked("allows(0, " + o + ")", x -> x.allows(0, o));
            asked("allows(1, " + o + ")", x -> x.allows(1, o));
            asked("compare(" + o + ")", x -> x.compare(o));
            asked("needless(0, " + o + ")", x -> x.needless(0, o));
            asked("needless(1, " + o + ")", x -> x.needless(1, o));
            asked("isIn(0, 0, " + o + ")", x -> x.isIn(0, 0, o) ? 1 : 0);
            asked("isIn(2, 0, " + o + ")", x -> x.isIn(2, 0, o) ? 1 : 0);
            asked("isIn(" + o + ", 1, 1)", x -> x.isIn(o, 1, 1) ? 1 : 0);
        }
        asked("size(0)", x -> x.size(0));
        asked("size(1)", x -> x.size(1));
    }

    /** Reading that was refused, wherever it stopped, leaves policies, text and world as they were. */
    private static void readingThatIsRefused() {
        String[] texts = {
            "", "+", "-", "*", "+0", "+4**;", "+@", "+@4**;", "-*@0*;", "-**@", "+***", "+***;;", "+***!", "+***?{",
            "+***?{1};", "+***?{b}!{h0&m0=T};", "+***?{h0}?{m0", "-***?{b&c|1+T=1};", "-***?{b}?{[h0:m0:1]};",
            "+***?{1<2<3};", "+***?{!!!!!!!b};", "+***?{b&b&b&b&b&b&b&b&b&b&b&b&b};",
        };
        for (String text : texts) {
            for (int set = 0; set < 2; set++) {
                PermitSets with = object(State.IN_USE);
                PermitSets without = object(State.IN_USE);
                Check.write(with, text);
                Check.write(without, text);
                check.yes("add(" + set + ") of " + text + " is refused", with.add(set) <= -10);
                check.same("after add(" + set + ") of " + text, Fingerprint.of(with), Fingerprint.of(without));
            }
        }
    }

    private void refused(String told, Truth call) {
        same(told, x -> call.on(x) ? 1 : 0, 0);
    }

    private void same(String told, Call call, int due) {
        PermitSets x = object(state);
        check.same(told + ", " + state, call.on(x), due);
        check.same("after " + told + ", " + state, Fingerprint.of(x), untouched);
    }

    private void asked(String told, Call call) {
        PermitSets x = object(state);
        int once = call.on(x);
        check.same(told + " again, " + state, call.on(x), once);
        check.same("after " + told + ", " + state, Fingerprint.of(x), untouched);
    }
}
