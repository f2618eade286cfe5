/** Promises 7 and 8: put, wipe. */
public final class TextTest {
    private static final Check check = new Check();

    public static void main(String[] args) {
        lowestFirst();
        wrongCounts();
        limit();
        wiping();
        textStays();
        highBytes();
        check.end();
    }

    private static void lowestFirst() {
        PermitSets x = new PermitSets();
        long bytes = '+' | '*' << 8 | '*' << 16 | '*' << 24 | (long) ';' << 32 | (long) 'x' << 40 | 0x80L << 56;
        check.same("put 5 of 8", x.put(bytes, 5), 5);
        check.same("add", x.add(0), 0);
        check.same("allows all", x.allows(0, 0), 2048);
        check.same("put 1 behind", x.put('?', 1), 6);
        check.same("add", x.add(0), -15);
        x.wipe();
        for (int i = 0; i < 5; i++) {
            check.same("byte for byte", x.put(bytes >> 8 * i, 1), i + 1);
        }
        check.same("add", x.add(0), 1);
        x.wipe();
        check.same("all eight", x.put(bytes, 8), 8);
        check.same("add: x behind ;", x.add(0), -15);
    }

    private static void wrongCounts() {
        PermitSets x = new PermitSets();
        int[] wrong = {0, 9, -1, -8, 16, 257, Integer.MAX_VALUE, Integer.MIN_VALUE};
        for (int n : wrong) {
            check.same("put with n = " + n, x.put(-1L, n), PermitSets.BAD);
        }
        check.same("nothing was put", x.wipe(), 0);
    }

    private static void limit() {
        for (int n = 1; n <= 8; n++) {
            PermitSets x = new PermitSets();
            int has = 0;
            for (; has + n <= 160; has += n) {
                check.same("put", x.put(0, n), has + n);
            }
            check.same("put too many", x.put(0, n), PermitSets.FULL);
            check.same("BAD before FULL", x.put(0, 9), PermitSets.BAD);
            int room = 160 - has;
            if (room > 0) {
                check.same("put what there is room for", x.put(0, room), 160);
            }
            check.same("full", x.put(0, 1), PermitSets.FULL);
            check.same("wipe", x.wipe(), 160);
            check.same("put anew", x.put(0, n), n);
        }
    }

    private static void wiping() {
        PermitSets x = new PermitSets();
        check.same("wipe nothing", x.wipe(), 0);
        x.put(7, 3);
        check.same("wipe", x.wipe(), 3);
        check.same("wipe again", x.wipe(), 0);
        check.same("the text is empty", x.add(0), -10);
    }

    private static void textStays() {
        PermitSets x = new PermitSets();
        check.same("add", Check.add(x, 0, "+0**;"), 0);
        check.same("add the same text", x.add(0), 1);
        check.same("in the other set", x.add(1), 0);
        check.same("refused", x.add(2), PermitSets.BAD);
        x.drop(0, 0);
        check.same("wipe", x.wipe(), 5);
        check.same("the policies stay", x.size(0), 1);
        check.same("as they are", x.policy(0, 0, 3), 512);
        Check.add(x, 0, "+***?{1}");
        check.same("a refused text stays", x.add(0), -1006);
        check.same("wipe", x.wipe(), 8);
    }

    private static void highBytes() {
        PermitSets x = new PermitSets();
        check.same("put", x.put(0xABL, 1), 1);
        check.same("0xAB is not +", x.add(0), -10);
        x.wipe();
        Check.write(x, "+***");
        x.put(0xBBL, 1);
        check.same("0xBB is not ;", x.add(0), -14);
        x.wipe();
        x.put(Long.MIN_VALUE | '+', 8);
        check.same("zero bytes may not stand", x.add(0), -11);
    }
}
