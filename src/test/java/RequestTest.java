/** Promises 13 to 16: ask, allows, compare, needless. */
public final class RequestTest {
    private static final Check check = new Check();
    private static final int[] WRONG = {-1, 3, 4, Integer.MIN_VALUE, Integer.MAX_VALUE};
    private static final int[] WRONG_SETS = {-1, 2, Integer.MIN_VALUE, Integer.MAX_VALUE};

    public static void main(String[] args) {
        asking();
        askingWrongly();
        allowing();
        comparing();
        needless();
        needlessWrongly();
        worldChanges();
        check.end();
    }

    private static void asking() {
        PermitSets x = Check.with("+***?{b};", "-***?{c};", "+***?{m1=2};", "-***?{m1=n};");
        check.same("neither b nor c", x.ask(0, 0, 0), 0);
        check.same("b", x.ask(0, 2, 0), 1);
        check.same("c", x.ask(0, 1, 0), 0);
        check.same("b and c", x.ask(0, 3, 0), 0);
        check.same("applying: b", x.ask(0, 2, 1), 1);
        check.same("applying: b and c", x.ask(0, 3, 1), 3);
        check.same("erring", x.ask(0, 3, 2), 12);
        x.mark(0, 1, 2);
        check.same("permitted by mark", x.ask(0, 0, 0), 1);
        check.same("applying", x.ask(0, 0, 1), 4);
        check.same("erring no more", x.ask(0, 0, 2), 0);
        check.same("forbidden by mark", x.ask(0, 8, 0), 0);
        check.same("applying", x.ask(0, 8 + 2, 1), 13);
        check.same("forbidden though permitted", x.ask(0, 8 + 2, 0), 0);
        check.same("another person", x.ask(0, 512, 2), 12);
        check.same("a forbidding policy that errs does not forbid", x.ask(0, 512 + 2, 0), 1);
        check.same("the other set has none", x.ask(1, 2, 0), 0);
        check.same("the other set has none", x.ask(1, 2, 1), 0);
        check.same("the other set has none", x.ask(1, 2, 2), 0);
        check.same("the last request", x.ask(0, 2047, 1), 3);
        x.drop(0, 0);
        check.same("numbers move", x.ask(0, 3, 1), 3);
        x = new PermitSets();
        for (int i = 0; i < 8; i++) {
            Check.add(x, 1, "+***?{n=" + i + "|m3=1};");
        }
        check.same("the eighth bit", x.ask(1, 28, 1), 128);
        check.same("the others err", x.ask(1, 28, 2), 127);
    }

    private static void askingWrongly() {
        PermitSets x = Check.with("+***;");
        for (int what = -1; what < 4; what++) {
            check.same("no such request", x.ask(0, -1, what), PermitSets.BAD);
            check.same("no such request", x.ask(0, 2048, what), PermitSets.BAD);
            check.same("no such request", x.ask(0, Integer.MIN_VALUE, what), PermitSets.BAD);
            check.same("no such request", x.ask(0, Integer.MAX_VALUE, what), PermitSets.BAD);
            for (int set : WRONG_SETS) {
                check.same("no such set", x.ask(set, 0, what), PermitSets.BAD);
            }
        }
        for (int what : WRONG) {
            check.same("ask what = " + what, x.ask(0, 0, what), PermitSets.BAD);
        }
        check.same("the first request", x.ask(0, 0, 0), 1);
        check.same("the last request", x.ask(0, 2047, 0), 1);
    }

    private static void allowing() {
        allowing(2048, 0, 2047, "+***;");
        allowing(0, -1, -1, "-***;");
        allowing(0, -1, -1, "+***;", "-***;");
        allowing(0, -1, -1, "-***;", "+***;");
        allowing(1, 0, 0, "+000?{n=0}!{b|c};");
        allowing(1, 2047, 2047, "+333?{n=7&b&c};");
        allowing(2, 31, 32, "+000?{n=7&b&c};", "+001?{n=0}!{b|c};");
        allowing(1024, 512, 1535, "+1**;", "+2**;");
        allowing(512, 1, 2044 + 1, "+***?{c};", "-***?{b};");
        allowing(1536, 0, 2047, "+***;", "-2**;");
        allowing(2048, 0, 2047, "+***;", "-***?{m0=1};");
        allowing(0, -1, -1, "+***?{m0=1};");
        PermitSets x = Check.with("+***;");
        for (int k : WRONG) {
            check.same("allows k = " + k, x.allows(0, k), PermitSets.BAD);
        }
        for (int k = -1; k < 4; k++) {
            for (int set : WRONG_SETS) {
                check.same("no such set", x.allows(set, k), PermitSets.BAD);
            }
        }
        check.same("none by the empty set", x.allows(1, 0), 0);
        check.same("no first one", x.allows(1, 1), PermitSets.NONE);
        check.same("no last one", x.allows(1, 2), PermitSets.NONE);
    }

    private static void allowing(int count, int first, int last, String... policies) {
        PermitSets x = Check.with(policies);
        String told = String.join(" ", policies);
        check.same("allows(0, 0): " + told, x.allows(0, 0), count);
        check.same("allows(0, 1): " + told, x.allows(0, 1), first);
        check.same("allows(0, 2): " + told, x.allows(0, 2), last);
    }

    private static void comparing() {
        PermitSets x = new PermitSets();
        comparing(x, 0, 0, -1);
        Check.add(x, 0, "+1**;");
        comparing(x, 512, 0, 512);
        Check.add(x, 1, "+*3*;");
        comparing(x, 384, 384, 384);
        Check.add(x, 1, "+1**;");
        comparing(x, 0, 384, 384);
        Check.add(x, 1, "-0**;");
        comparing(x, 0, 256, 1024 + 384);
        Check.add(x, 1, "-***!{b|c|n#6};");
        comparing(x, 16, 248, 512 + 24);
        Check.add(x, 0, "-***!{b|c|n#6};");
        comparing(x, 0, 248, 1024 + 384);
        Check.add(x, 1, "-***?{m0=0};");
        comparing(x, 0, 248, 1024 + 384);
        x.drop(1, 0);
        comparing(x, 0, 0, -1);
        Check.add(x, 0, "+333?{n=7&b&c};");
        comparing(x, 1, 0, 2047);
        for (int k : WRONG) {
            check.same("compare k = " + k, x.compare(k), PermitSets.BAD);
        }
        x = Check.with("+000?{n=1};");
        comparing(x, 4, 0, 4);
        Check.add(x, 1, "+000?{n=1};");
        comparing(x, 0, 0, -1);
        Check.add(x, 1, "+000?{n=0}!{b|c};");
        comparing(x, 0, 1, 0);
    }

    private static void comparing(PermitSets x, int onlyFirst, int onlySecond, int place) {
        check.same("compare(0)", x.compare(0), onlyFirst);
        check.same("compare(1)", x.compare(1), onlySecond);
        check.same("compare(2)", x.compare(2), place);
    }

    private static void needless() {
        needless("1", "-***;");
        needless("0", "+***;");
        needless("11", "+***;", "+***;");
        needless("100", "+***?{b};", "+***;", "-***?{c&n=1};");
        needless("10", "+1**;", "+***;");
        needless("01", "+***;", "-@0**;");
        needless("00", "+***;", "-333?{n=7&b&c};");
        needless("00", "+***;", "-000?{n=0}!{b|c};");
        needless("10", "+***;", "-***;");
        needless("101", "-***?{b};", "+***!{b};", "-0**?{b&c};");
        needless("1", "+***?{m0=0};");
        needless("1", "+***?{F};");
    }

    private static void needless(String due, String... policies) {
        PermitSets x = new PermitSets();
        for (String policy : policies) {
            Check.add(x, 1, policy);
        }
        for (int i = 0; i < due.length(); i++) {
            check.same("needless " + i + ": " + String.join(" ", policies), x.needless(1, i), due.charAt(i) - '0');
        }
        check.same("the policies stay", x.size(1), due.length());
    }

    private static void needlessWrongly() {
        PermitSets x = Check.with("+***;", "+***;");
        int[] wrong = {-1, 2, 8, 9, Integer.MIN_VALUE, Integer.MAX_VALUE};
        for (int i : wrong) {
            check.same("no such policy", x.needless(0, i), PermitSets.BAD);
        }
        for (int set : WRONG_SETS) {
            check.same("no such set", x.needless(set, 0), PermitSets.BAD);
        }
        check.same("none in the other set", x.needless(1, 0), PermitSets.BAD);
    }

    private static void worldChanges() {
        PermitSets x = Check.with("+@0**;", "+1**;");
        check.same("allows", x.allows(0, 0), 512);
        check.same("needless", x.needless(0, 0), 1);
        check.same("not needless", x.needless(0, 1), 0);
        check.same("first", x.compare(2), 512);
        x.join(0, 1, 0);
        check.same("needless as well now", x.needless(0, 1), 1);
        x.join(0, 0, 0);
        check.same("allows", x.allows(0, 0), 1024);
        check.same("not needless any more", x.needless(0, 0), 0);
        check.same("first", x.compare(2), 0);
        check.same("ask", x.ask(0, 0, 0), 1);
        x.leave(0, 0, 0);
        check.same("ask", x.ask(0, 0, 0), 0);
        check.same("allows", x.allows(0, 1), 512);
    }
}
