/** The boundary cases of promises 7 and 8, put and wipe, a sentence at a time. */
public final class TextBoundaryTest {
    private static final Check check = new Check();
    private static final String LONGEST = "+***?{" + "((((((b))))))&".repeat(10) + "(((((g0)))))};";

    public static void main(String[] args) {
        lowestBytes();
        everyByteIsKept();
        howManyItHas();
        badCounts();
        badCountsChangeNothing();
        fullAbove160();
        fullFromEveryLength();
        fullChangesNothing();
        badBeforeFull();
        longestTextIsRead();
        wipeSaysHowMany();
        wipeEmpties();
        wipeLeavesTheRest();
        check.end();
    }

    private static void lowestBytes() {
        check.sentence("Promise 7: the n lowest of eight bytes, the lowest one first");
        String policy = "+0*@1?{b}!{c};";
        for (int n = 1; n <= 8; n++) {
            PermitSets x = new PermitSets();
            for (int from = 0; from < policy.length(); from += n) {
                int some = Math.min(n, policy.length() - from);
                // What is above the n lowest must not matter: ones here.
                long bytes = -1L;
                for (int i = some - 1; i >= 0; i--) {
                    bytes = bytes << 8 | policy.charAt(from + i);
                }
                check.same("put of " + some, x.put(bytes, some), from + some);
            }
            check.same("add, put by " + n, x.add(0), 0);
            check.same("wipe, put by " + n, x.wipe(), policy.length());
        }
    }

    private static void everyByteIsKept() {
        check.sentence("Promise 7: bytes, of which no two are the same");
        String policy = "+***?{T}";
        for (int place = 0; place < 8; place++) {
            for (int value = 0; value < 256; value++) {
                // No byte of the language is one of these; many are one but for a bit.
                if (value <= ' ' || value >= 127) {
                    PermitSets x = new PermitSets();
                    Check.append(x, policy.substring(0, place) + (char) value + policy.substring(place + 1));
                    check.same("byte " + value + " at " + place, x.add(0), -10 - place);
                }
            }
        }
    }

    private static void howManyItHas() {
        check.sentence("Promise 7: how many it has then");
        PermitSets x = new PermitSets();
        int has = 0;
        for (int round = 0; round < 4; round++) {
            for (int n = 1; n <= 8; n++) {
                has += n;
                check.same("put of " + n, x.put(0, n), has);
            }
        }
        check.same("16 more", x.put(0, 8) + x.put(0, 8), 152 + 160);
    }

    private static void badCounts() {
        check.sentence("Promise 7: BAD when n is not 1 .. 8");
        PermitSets x = new PermitSets();
        check.same("n = 0", x.put(0, 0), PermitSets.BAD);
        check.same("n = 1", x.put(0, 1), 1);
        check.same("n = 8", x.put(0, 8), 9);
        check.same("n = 9", x.put(0, 9), PermitSets.BAD);
        int[] beside = {-1, -8, 10, 16, 256 + 1, Integer.MIN_VALUE, Integer.MIN_VALUE + 1, Integer.MAX_VALUE};
        for (int n : beside) {
            check.same("n = " + n, x.put(0, n), PermitSets.BAD);
        }
    }

    private static void badCountsChangeNothing() {
        check.sentence("Promise 7: a BAD put puts nothing");
        PermitSets x = new PermitSets();
        Check.append(x, "+***");
        x.put(';', 0);
        x.put(';', 9);
        x.put(';', -1);
        check.same("put behind", x.put(';', 1), 5);
        check.same("add", x.add(0), 0);
        check.same("wipe", x.wipe(), 5);
    }

    private static void fullAbove160() {
        check.sentence("Promise 7: FULL when there would be more than 160");
        PermitSets x = of(159);
        check.same("159 + 2", x.put(0, 2), PermitSets.FULL);
        check.same("159 + 1", x.put(0, 1), 160);
        check.same("160 + 1", x.put(0, 1), PermitSets.FULL);
        check.same("160 + 8", x.put(0, 8), PermitSets.FULL);
        x = of(152);
        check.same("152 + 8", x.put(0, 8), 160);
        x = of(153);
        check.same("153 + 8", x.put(0, 8), PermitSets.FULL);
        check.same("153 + 7", x.put(0, 7), 160);
    }

    private static void fullFromEveryLength() {
        check.sentence("Promise 7: FULL when there would be more than 160");
        for (int length = 150; length <= 160; length++) {
            for (int n = 1; n <= 8; n++) {
                int due = length + n > 160 ? PermitSets.FULL : length + n;
                check.same(length + " + " + n, of(length).put(0, n), due);
            }
        }
    }

    private static void fullChangesNothing() {
        check.sentence("Promise 7: a FULL put puts nothing, not even what there is room for");
        for (int length = 153; length < 160; length++) {
            PermitSets x = new PermitSets();
            Check.append(x, LONGEST.substring(0, length));
            check.same("put of 8 behind " + length, x.put(0, 8), PermitSets.FULL);
            check.same("add, bytes missing", x.add(0), -10 - length);
            Check.append(x, LONGEST.substring(length));
            check.same("add, all there", x.add(0), 0);
            check.same("put behind 160", x.put(0, 1), PermitSets.FULL);
            check.same("add again", x.add(0), 1);
            check.same("wipe", x.wipe(), 160);
        }
    }

    private static void badBeforeFull() {
        check.sentence("Promise 7: BAD when n is not 1 .. 8, the text being full or not");
        PermitSets x = of(160);
        int[] beside = {0, -1, 9, Integer.MIN_VALUE, Integer.MAX_VALUE};
        for (int n : beside) {
            check.same("n = " + n, x.put(0, n), PermitSets.BAD);
        }
        check.same("n = 1", x.put(0, 1), PermitSets.FULL);
        check.same("wipe", x.wipe(), 160);
    }

    private static void longestTextIsRead() {
        check.sentence("Promise 9: a text of 160 bytes is read to its end");
        check.same("its length", LONGEST.length(), 160);
        PermitSets x = new PermitSets();
        x.join(0, 2, 0);
        check.same("add", Check.add(x, 0, LONGEST), 0);
        check.same("atoms", x.policy(0, 0, 1), 11);
        check.same("applies", x.policy(0, 0, 3), 256);
        String behind158 = "+***?{" + "((((((b))))))&".repeat(10) + "(((((b)))))&";
        refused(LONGEST.substring(0, 159) + "}", -10 - 159);
        refused(LONGEST.substring(0, 159) + ")", -10 - 159);
        refused(behind158 + "((", -10 - 160);
        refused(behind158 + "!g", -10 - 160);
        refused(behind158 + "!1", -1000 - 159);
        refused(behind158 + "1}", -1000 - 158);
    }

    private static void refused(String text, int due) {
        check.same("the length of " + text, text.length(), 160);
        check.same("add of " + text, Check.add(new PermitSets(), 1, text), due);
    }

    private static void wipeSaysHowMany() {
        check.sentence("Promise 8: how many bytes it had");
        int[] lengths = {0, 1, 7, 8, 9, 80, 159, 160};
        for (int length : lengths) {
            PermitSets x = of(length);
            check.same("wipe of " + length, x.wipe(), length);
            check.same("wipe of none", x.wipe(), 0);
        }
    }

    private static void wipeEmpties() {
        check.sentence("Promise 8: the text becomes empty");
        PermitSets x = of(160);
        x.wipe();
        check.same("nothing is there", x.add(0), -10);
        check.same("put", x.put('+', 1), 1);
        check.same("nothing is there behind +", x.add(0), -11);
        check.same("wipe", x.wipe(), 1);
        Check.append(x, LONGEST);
        check.same("add", x.add(0), 0);
        check.same("wipe", x.wipe(), 160);
        Check.append(x, "+***?{b");
        check.same("what was there before is not read", x.add(0), -17);
    }

    private static void wipeLeavesTheRest() {
        check.sentence("Promise 8: the text alone");
        PermitSets x = Check.with("+0**;", "-01*;");
        x.mark(1, 1, 1);
        x.wipe();
        check.same("size", x.size(0), 2);
        check.same("allows", x.allows(0, 0), 384);
        check.same("a mark", Check.add(x, 1, "+***?{h1};"), 0);
        check.same("a mark", x.policy(1, 0, 3), 512);
    }

    /** An object with this many bytes of text. */
    private static PermitSets of(int length) {
        PermitSets x = new PermitSets();
        Check.append(x, "x".repeat(length));
        return x;
    }
}
