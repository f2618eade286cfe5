/** Counts the answers of a test that are not as due, and ends it with exit code 1 if there was one. */
final class Check {
    private int looked = 0;
    private int wrong = 0;
    private String sentence = "";

    /** Names the document's sentence that the answers from here on are held to. */
    void sentence(String words) {
        sentence = words + " -- ";
    }

    void same(String call, long got, long due) {
        looked++;
        if (got != due) {
            wrong++;
            System.out.println(sentence + call + " answered " + got + ", due is " + due);
        }
    }

    void same(String call, String got, String due) {
        looked++;
        if (!got.equals(due)) {
            wrong++;
            System.out.println(sentence + call + " answered\n  " + got + ", due is\n  " + due);
        }
    }

    void yes(String call, boolean got) {
        same(call, got ? 1 : 0, 1);
    }

    void no(String call, boolean got) {
        same(call, got ? 1 : 0, 0);
    }

    void end() {
        System.out.println(looked + " answers, " + wrong + " not as due");
        if (looked == 0 || wrong != 0) {
            System.exit(1);
        }
    }

    /** Makes a text the object's text. */
    static void write(PermitSets x, String text) {
        x.wipe();
        append(x, text);
    }

    /** Puts a text behind the object's text. */
    static void append(PermitSets x, String text) {
        for (int from = 0; from < text.length(); from += 8) {
            int n = Math.min(8, text.length() - from);
            long bytes = 0;
            for (int i = n - 1; i >= 0; i--) {
                bytes = bytes << 8 | text.charAt(from + i);
            }
            x.put(bytes, n);
        }
    }

    /** Makes a text the object's text, and adds it to a set. */
    static int add(PermitSets x, int set, String text) {
        write(x, text);
        return x.add(set);
    }

    /** A new object with these policies in set 0. */
    static PermitSets with(String... policies) {
        PermitSets x = new PermitSets();
        for (String policy : policies) {
            if (add(x, 0, policy) < 0) {
                throw new IllegalArgumentException(policy);
            }
        }
        return x;
    }

    static int request(int person, int deed, int thing, int n, int b, int c) {
        return 512 * person + 128 * deed + 32 * thing + 4 * n + 2 * b + c;
    }
}
