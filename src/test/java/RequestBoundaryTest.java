/** The boundary cases of requests and of when a set allows, and of promises 13 to 16, a sentence at a time. */
public final class RequestBoundaryTest {
    private static final Check check = new Check();
    private static final int BAD = PermitSets.BAD, NONE = PermitSets.NONE;
    private static final int[] BESIDE_SETS = {-1, 2, 3, 256, Integer.MIN_VALUE, Integer.MAX_VALUE};
    private static final int[] BESIDE_THREE = {-1, 3, 4, 256, Integer.MIN_VALUE, Integer.MAX_VALUE};
    private static final int[] BESIDE_REQUESTS = {-1, 2048, 2049, 4095, 4096, -2048, Integer.MIN_VALUE, Integer.MAX_VALUE};
    private static final String FIRST = "000?{n=0}!{b|c};", LAST = "333?{n=7&b&c};";

    public static void main(String[] args) {
        numberOfARequest();
        oneRequestAlone();
        allowsIfPermittedAndNotForbidden();
        errorsNeitherPermitNorForbid();
        askBits();
        askNoSuchSet();
        askNoSuchRequest();
        askNoSuchWhat();
        askIsOfNow();
        changesInAnyOrder();
        allowsHowMany();
        allowsNone();
        allowsNoSuch();
        compareHowMany();
        compareFirst();
        compareNone();
        compareNoSuch();
        needlessAlone();
        needlessByOneRequest();
        needlessInAFullSet();
        needlessTakesNothing();
        needlessNoSuch();
        fiveHundredAndTwelveCalls();
        check.end();
    }

    private static void numberOfARequest() {
        check.sentence("Terms: its NUMBER is 512 person + 128 deed + 32 thing + 4 n + 2 (if b) + 1 (if c)");
        PermitSets x = null;
        for (int request = 0; request < 2048; request++) {
            if (request % 256 == 0) {
                x = Check.with("+0**;", "+1**;", "+2**;", "+3**;", "+***?{b};", "+***?{c};", "+***?{n<4};", "+***?{n=0|n=4|n=7};");
                for (int i = 0; i < 4; i++) {
                    Check.add(x, 1, "+*" + i + "*;");
                    Check.add(x, 1, "+**" + i + ";");
                }
            }
            int n = request / 4 % 8;
            int due = 1 << request / 512 | request / 2 % 2 << 4 | request % 2 << 5 | (n < 4 ? 64 : 0) | (n % 4 == 0 || n == 7 ? 128 : 0);
            check.same("ask(0, " + request + ", 1)", x.ask(0, request, 1), due);
            if (request % 32 < 2) {
                int deed = request / 128 % 4;
                int thing = request / 32 % 4;
                check.same("ask(1, " + request + ", 1)", x.ask(1, request, 1), 1 << 2 * deed | 2 << 2 * thing);
            }
        }
    }

    private static void oneRequestAlone() {
        check.sentence("Terms: 0 .. 2047: each request is one by itself");
        for (int request = 0; request < 2048; request += request % 32 == 0 || request % 32 == 31 ? 1 : 6) {
            PermitSets x = Check.with("+" + only(request));
            check.same("how many", x.allows(0, 0), 1);
            check.same("the first one", x.allows(0, 1), request);
            check.same("the last one", x.allows(0, 2), request);
            check.same("where the sets differ", x.compare(2), request);
            check.same("ask it", x.ask(0, request, 0), 1);
            check.same("ask the one before", x.ask(0, request - 1, 0), request == 0 ? BAD : 0);
            check.same("ask the one behind", x.ask(0, request + 1, 0), request == 2047 ? BAD : 0);
        }
    }

    private static void allowsIfPermittedAndNotForbidden() {
        check.sentence("VALUES: a set ALLOWS a request if a policy that permits applies and none that forbids");
        allowed(0);
        allowed(1, "+***;");
        allowed(0, "-***;");
        allowed(0, "+***;", "-***;");
        allowed(0, "-***;", "+***;");
        allowed(1, "+***;", "+***;");
        allowed(0, "-***;", "-***;");
        allowed(1, "+***;", "-***?{F};");
        allowed(0, "+***?{F};", "-***;");
        allowed(0, "+***?{F};", "-***?{F};");
        allowed(1, "+***?{F};", "+***;", "-***!{T};");
        allowed(0, "+***;", "+***;", "+***;", "+***;", "+***;", "+***;", "+***;", "-***;");
        allowed(0, "-***;", "+***;", "+***;", "+***;", "+***;", "+***;", "+***;", "+***;");
        allowed(1, "-***?{F};", "-***?{F};", "-***?{F};", "-***?{F};", "-***?{F};", "-***?{F};", "-***?{F};", "+***;");
    }

    private static void errorsNeitherPermitNorForbid() {
        check.sentence("VALUES: it ERRS, and does not apply");
        allowed(0, "+***?{m0=0};");
        allowed(1, "+***;", "-***?{m0=0};");
        allowed(1, "+***;", "+***?{m0=0};");
        allowed(0, "-***;", "+***?{m0=0};");
    }

    private static void allowed(int due, String... policies) {
        PermitSets x = Check.with(policies);
        String told = String.join(" ", policies);
        check.same("ask 0: " + told, x.ask(0, 0, 0), due);
        check.same("ask 2047: " + told, x.ask(0, 2047, 0), due);
        check.same("allows: " + told, x.allows(0, 0), 2048 * due);
        check.same("compare: " + told, x.compare(0), 2048 * due);
        check.same("the other set: " + told, x.allows(1, 0), 0);
    }

    private static void askBits() {
        check.sentence("Promise 13: 1: the policies that apply, 2: those that err, as bits by their numbers");
        for (int set = 0; set < 2; set++) {
            PermitSets x = new PermitSets();
            check.same("none there", x.ask(set, 0, 1), 0);
            check.same("none there", x.ask(set, 0, 2), 0);
            for (int i = 0; i < 8; i++) {
                Check.add(x, set, (i % 2 == 0 ? "+" : "-") + "***?{b|m" + i % 4 + "=0};");
                check.same("all apply", x.ask(set, 2, 1), (2 << i) - 1);
                check.same("none errs", x.ask(set, 2, 2), 0);
                check.same("none applies", x.ask(set, 2045, 1), 0);
                check.same("all err", x.ask(set, 2045, 2), (2 << i) - 1);
                check.same("the other set", x.ask(1 - set, 2, 1), 0);
            }
            x.mark(3, 1, 0);
            x.mark(3, 2, 1);
            check.same("of mark 1", x.ask(set, 2045, 1), 2 + 32);
            check.same("of marks 0 and 3", x.ask(set, 2045, 2), 1 + 8 + 16 + 128);
        }
    }

    private static void askNoSuchSet() {
        check.sentence("Promise 13: BAD when there is no such set");
        PermitSets x = Check.with("+***;");
        Check.add(x, 1, "+***;");
        for (int what = 0; what < 3; what++) {
            int due = what == 2 ? 0 : 1;
            check.same("ask(0, 0, " + what + ")", x.ask(0, 0, what), due);
            check.same("ask(1, 0, " + what + ")", x.ask(1, 0, what), due);
            for (int set : BESIDE_SETS) {
                check.same("ask(" + set + ", 0, " + what + ")", x.ask(set, 0, what), BAD);
            }
        }
    }

    private static void askNoSuchRequest() {
        check.sentence("Promise 13: BAD when there is no such request");
        PermitSets x = Check.with("+***;");
        for (int set = 0; set < 2; set++) {
            for (int what = 0; what < 3; what++) {
                int due = set == 1 || what == 2 ? 0 : 1;
                check.same("ask(" + set + ", 0, " + what + ")", x.ask(set, 0, what), due);
                check.same("ask(" + set + ", 2047, " + what + ")", x.ask(set, 2047, what), due);
                for (int request : BESIDE_REQUESTS) {
                    check.same("ask(" + set + ", " + request + ", " + what + ")", x.ask(set, request, what), BAD);
                }
            }
        }
    }

    private static void askNoSuchWhat() {
        check.sentence("Promise 13: BAD when what is none of these");
        PermitSets x = Check.with("+***;");
        for (int what : BESIDE_THREE) {
            check.same("ask(0, 0, " + what + ")", x.ask(0, 0, what), BAD);
            check.same("ask(1, 2047, " + what + ")", x.ask(1, 2047, what), BAD);
        }
    }

    private static void askIsOfNow() {
        check.sentence("Promise 13 to 16: of the world and the sets as they are then");
        PermitSets x = Check.with("+@3*@3?{h3&m3=l}!{o};");
        check.same("at first", x.allows(0, 0), 0);
        x.join(0, 3, 2);
        x.join(2, 3, 2);
        x.mark(3, 3, 7);
        x.thing(3, 7, 2);
        check.same("in group 2 and folder 2 alone", x.allows(0, 0), 0);
        x.join(1, 2, 3);
        check.same("in group 3", x.compare(2), NONE);
        x.join(3, 2, 3);
        check.same("and in folder 3", x.compare(2), 1536 + 96);
        check.same("and in folder 3", x.needless(0, 0), 0);
        x.thing(3, 7, 3);
        check.same("the owner", x.needless(0, 0), 1);
        x.thing(3, 6, 2);
        check.same("the level", x.allows(0, 1), NONE);
        x.mark(3, 3, 6);
        check.same("the mark", x.allows(0, 2), 2047);
        x.mark(3, 3, -1);
        check.same("no mark", x.policy(0, 0, 3), 0);
        x.mark(3, 3, 6);
        check.same("the mark again", x.policy(0, 0, 3), 128);
        x.leave(3, 2, 3);
        check.same("out of folder 3", x.compare(0), 0);
    }

    private static void changesInAnyOrder() {
        check.sentence("Promise 13 to 16: of the world as it is then, whatever changed in between");
        for (int order = 0; order < 512; order++) {
            PermitSets asked = Check.with("+***?{h0|g0|f0|l=1|o};");
            PermitSets notAsked = Check.with("+***?{h0|g0|f0|l=1|o};");
            for (int rest = order; rest > 0; rest /= 8) {
                asked.allows(0, 0);
                change(asked, rest % 8);
                change(asked, rest / 8 % 8);
                change(notAsked, rest % 8);
                change(notAsked, rest / 8 % 8);
            }
            check.same("allows after the changes " + order, asked.allows(0, 0), notAsked.allows(0, 0));
        }
    }

    private static void change(PermitSets x, int which) {
        switch (which) {
            case 0: x.mark(1, 0, 1); break;
            case 1: x.mark(1, 0, -1); break;
            case 2: x.join(0, 2, 0); break;
            case 3: x.leave(0, 2, 0); break;
            case 4: x.join(2, 1, 0); break;
            case 5: x.leave(2, 1, 0); break;
            case 6: x.thing(2, 1, 0); break;
            default: x.thing(2, 0, 3);
        }
    }

    private static void allowsHowMany() {
        check.sentence("Promise 14: how many (k = 0); the first one (1), the last one (2)");
        allows(2048, 0, 2047, "+***;");
        allows(1, 0, 0, "+" + FIRST);
        allows(1, 2047, 2047, "+" + LAST);
        allows(2, 0, 2047, "+" + FIRST, "+" + LAST);
        allows(2047, 1, 2047, "+***;", "-" + FIRST);
        allows(2047, 0, 2046, "+***;", "-" + LAST);
        allows(2046, 1, 2046, "+***;", "-" + FIRST, "-" + LAST);
        allows(2, 31, 32, "+" + only(31), "+" + only(32));
        allows(2, 511, 512, "+" + only(511), "+" + only(512));
        allows(32, 1024, 1055, "+200;");
        allows(1024, 1, 2047, "+***?{c};");
        allows(512, 0, 2044, "+***!{b|c};");
    }

    private static void allowsNone() {
        check.sentence("Promise 14: NONE when it allows none");
        allows(0, NONE, NONE);
        allows(0, NONE, NONE, "-***;");
        allows(0, NONE, NONE, "+***;", "-***;");
        allows(0, NONE, NONE, "+***?{F};");
        allows(0, NONE, NONE, "+***?{m0=0};");
        allows(0, NONE, NONE, "+@0**;");
        allows(0, NONE, NONE, "+" + FIRST, "-" + FIRST);
        allows(0, NONE, NONE, "+" + LAST, "-" + LAST);
    }

    private static void allows(int count, int first, int last, String... policies) {
        String told = String.join(" ", policies);
        for (int set = 0; set < 2; set++) {
            PermitSets x = new PermitSets();
            for (String policy : policies) {
                Check.add(x, set, policy);
            }
            check.same("allows(set, 0): " + told, x.allows(set, 0), count);
            check.same("allows(set, 1): " + told, x.allows(set, 1), first);
            check.same("allows(set, 2): " + told, x.allows(set, 2), last);
            check.same("allows of the other set, 0", x.allows(1 - set, 0), 0);
            check.same("allows of the other set, 1", x.allows(1 - set, 1), NONE);
            check.same("allows of the other set, 2", x.allows(1 - set, 2), NONE);
        }
    }

    private static void allowsNoSuch() {
        check.sentence("Promise 14: BAD when there is no such set, or k is none of these");
        PermitSets x = Check.with("+***;");
        Check.add(x, 1, "+***;");
        for (int k = 0; k < 3; k++) {
            int due = k == 0 ? 2048 : k == 1 ? 0 : 2047;
            check.same("allows(0, " + k + ")", x.allows(0, k), due);
            check.same("allows(1, " + k + ")", x.allows(1, k), due);
            for (int set : BESIDE_SETS) {
                check.same("allows(" + set + ", " + k + ")", x.allows(set, k), BAD);
            }
        }
        for (int k : BESIDE_THREE) {
            check.same("allows(0, " + k + ")", x.allows(0, k), BAD);
            check.same("allows(1, " + k + ")", x.allows(1, k), BAD);
            check.same("allows(2, " + k + ")", x.allows(2, k), BAD);
        }
    }

    private static void compareHowMany() {
        check.sentence("Promise 15: by set 0 and not by set 1 (k = 0), by set 1 and not by set 0 (1)");
        compare(0, 0, NONE, "", "");
        compare(2048, 0, 0, "+***;", "");
        compare(0, 2048, 0, "", "+***;");
        compare(1024, 0, 2, "+***;", "+***!{b};");
        compare(0, 1024, 2, "+***!{b};", "+***;");
        compare(512, 512, 1, "+***?{b};", "+***?{c};");
        compare(1024, 1024, 0, "+***?{b};", "+***!{b};");
        compare(1, 0, 0, "+" + FIRST, "");
        compare(0, 1, 0, "", "+" + FIRST);
        compare(1, 0, 2047, "+" + LAST, "");
        compare(0, 1, 2047, "", "+" + LAST);
        compare(1, 1, 0, "+" + FIRST, "+" + LAST);
        compare(1, 1, 0, "+" + LAST, "+" + FIRST);
    }

    private static void compareFirst() {
        check.sentence("Promise 15: the first request that one of both allows and the other does not (2)");
        for (int request : new int[] {0, 1, 31, 32, 127, 128, 511, 512, 1023, 1024, 2046, 2047}) {
            compare(1, 0, request, "+" + only(request), "");
            compare(0, 1, request, "", "+" + only(request));
            compare(0, 1, request, "+***; -" + only(request), "+***;");
            compare(1, 0, request, "+***;", "+***; -" + only(request));
        }
        compare(1, 1, 31, "+" + only(31), "+" + only(32));
        compare(1, 1, 31, "+" + only(32), "+" + only(31));
        compare(1, 1, 511, "+" + only(512), "+" + only(511));
    }

    private static void compareNone() {
        check.sentence("Promise 15: NONE when there is none");
        compare(0, 0, NONE, "+***;", "+***;");
        compare(0, 0, NONE, "-***;", "");
        compare(0, 0, NONE, "+***; -***;", "-***;");
        compare(0, 0, NONE, "+***;", "+***?{b}; +***!{b};");
        compare(0, 0, NONE, "+***; -***?{m0=0};", "+***;");
        compare(0, 0, NONE, "+0**; +1**; +2**; +3**;", "+*0*; +*1*; +*2*; +*3*;");
        compare(0, 0, NONE, "+***?{!(b&c)};", "+***?{!b|!c};");
    }

    /** Both sets are told as policies with a blank between. */
    private static void compare(int onlyFirst, int onlySecond, int place, String first, String second) {
        PermitSets x = new PermitSets();
        fill(x, 0, first);
        fill(x, 1, second);
        String told = first + " and " + second;
        check.same("compare(0): " + told, x.compare(0), onlyFirst);
        check.same("compare(1): " + told, x.compare(1), onlySecond);
        check.same("compare(2): " + told, x.compare(2), place);
    }

    private static void fill(PermitSets x, int set, String policies) {
        for (String policy : policies.split(" ")) {
            if (!policy.isEmpty()) {
                check.yes("add of " + policy, Check.add(x, set, policy) >= 0);
            }
        }
    }

    private static void compareNoSuch() {
        check.sentence("Promise 15: BAD when k is none of these");
        PermitSets x = Check.with("+1**;");
        check.same("compare(0)", x.compare(0), 512);
        check.same("compare(1)", x.compare(1), 0);
        check.same("compare(2)", x.compare(2), 512);
        for (int k : BESIDE_THREE) {
            check.same("compare(" + k + ")", x.compare(k), BAD);
            check.same("compare(" + k + ") of new sets", new PermitSets().compare(k), BAD);
        }
    }

    private static void needlessAlone() {
        check.sentence("Promise 16: 1 if a set allows the same requests without one of its policies, else 0");
        needless("0", "+***;");
        needless("1", "-***;");
        needless("1", "+***?{F};");
        needless("1", "+***?{m0=0};");
        needless("1", "+@0**;");
        needless("11", "+***; +***;");
        needless("10", "+***; -***;");
        needless("01", "-***; +***;");
        needless("11", "-***; -***;");
        needless("111", "+***; -***; -***;");
        needless("110", "+***; +***; -***;");
        needless("10", "+0**; +***;");
        needless("001", "+0**; +1**; +0**?{b};");
        needless("011", "+***; -***?{m0=0}; -***?{F};");
        needless("000", "+***; -***?{b}; -***?{c};");
        needless("0011", "+***; -***?{b}; -***?{b&c}; +***?{b};");
    }

    private static void needlessByOneRequest() {
        check.sentence("Promise 16: the same requests (all of them)");
        for (int request : new int[] {0, 1, 31, 32, 127, 128, 511, 512, 1023, 1024, 2046, 2047}) {
            needless("0", "+" + only(request));
            needless("00", "+***; -" + only(request));
            needless("11", "+" + only(request) + " +" + only(request));
            needless("10", "+" + only(request) + " +***;");
            needless("10", "+" + only(request) + " -" + only(request));
            needless("010", "+***; +" + only(request) + " -" + only(request));
        }
    }

    private static void needlessInAFullSet() {
        check.sentence("Promise 16: of 8 policies, each one");
        needless("00000000", "+***?{n=0}; +***?{n=1}; +***?{n=2}; +***?{n=3}; +***?{n=4}; +***?{n=5}; +***?{n=6}; +***?{n=7};");
        needless("10000001", "+***?{n=0}; +***?{n=1}; +***?{n=2}; +***?{n=3}; +***?{n=4}; +***?{n=5}; +***?{n=6}; +***?{n=0};");
        needless("01111111", "+***; -***?{F}; -***?{F}; -***?{F}; -***?{F}; -***?{F}; -***?{F}; -***?{F};");
        needless("11111110", "-***?{F}; -***?{F}; -***?{F}; -***?{F}; -***?{F}; -***?{F}; -***?{F}; +***;");
    }

    private static void needless(String due, String policies) {
        for (int set = 0; set < 2; set++) {
            PermitSets x = new PermitSets();
            fill(x, set, policies);
            for (int i = 0; i < due.length(); i++) {
                check.same("needless(set, " + i + "): " + policies, x.needless(set, i), due.charAt(i) - '0');
            }
            check.same("needless of one behind: " + policies, x.needless(set, due.length()), BAD);
            check.same("needless of the other set", x.needless(1 - set, 0), BAD);
        }
    }

    private static void needlessTakesNothing() {
        check.sentence("Promise 16: without one of its policies, which stays");
        PermitSets x = Check.with("+***;", "+0**;", "-1**;");
        for (int i = 0; i < 3; i++) {
            check.same("needless", x.needless(0, i), i == 1 ? 1 : 0);
            check.same("size", x.size(0), 3);
            check.same("allows", x.allows(0, 0), 1536);
            check.same("ask", x.ask(0, 0, 1), 3);
        }
    }

    private static void needlessNoSuch() {
        check.sentence("Promise 16: BAD when there is no such policy");
        PermitSets x = Check.with("+***;", "+***;");
        check.same("the first one", x.needless(0, 0), 1);
        check.same("the last one", x.needless(0, 1), 1);
        for (int i : new int[] {-1, 2, 3, 7, 8, 9, Integer.MIN_VALUE, Integer.MAX_VALUE}) {
            check.same("needless(0, " + i + ")", x.needless(0, i), BAD);
        }
        for (int i = -1; i < 2; i++) {
            check.same("needless(1, " + i + ")", x.needless(1, i), BAD);
            for (int set : BESIDE_SETS) {
                check.same("needless(" + set + ", " + i + ")", x.needless(set, i), BAD);
            }
        }
        x.drop(0, 0);
        check.same("the last one is needed now", x.needless(0, 0), 0);
        check.same("and there is no other", x.needless(0, 1), BAD);
    }

    private static void fiveHundredAndTwelveCalls() {
        check.sentence("An object is used for at most 512 calls");
        PermitSets x = Check.with("+0**?{h0&m0=n};");
        // Four calls were made for the policy.
        for (int call = 5; call < 512; call += 2) {
            int value = call % 9 - 1;
            x.mark(0, 0, value);
            check.same("call " + (call + 1), x.allows(0, 0), value < 0 ? 0 : 64);
        }
    }

    /** The scopes and conditions that one request alone has. */
    private static String only(int request) {
        String scopes = "" + request / 512 + request / 128 % 4 + request / 32 % 4;
        String b = request / 2 % 2 == 1 ? "b" : "!b";
        String c = request % 2 == 1 ? "c" : "!c";
        return scopes + "?{n=" + request / 4 % 8 + "}?{" + b + "&" + c + "};";
    }
}
