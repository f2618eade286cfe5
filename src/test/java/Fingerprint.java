/**
 * All that can be seen of an object, as a text: two objects with the same one are in the same state.
 * Looking uses the object up, and takes up to 350 calls of the 512 that it has.
 */
final class Fingerprint {
    private static final int[] REQUESTS = {0, 1, 2, 31, 32, 127, 128, 511, 512, 1000, 1535, 1536, 2046, 2047};
    private static final String[] PROBES = {
        "+***?{m0=n};", "+***?{m1=n};", "+***?{m2=n};", "+***?{m3=n};", "+***?{l=n};", "+***?{o};",
    };

    private final PermitSets x;
    private final StringBuilder seen = new StringBuilder();

    private Fingerprint(PermitSets x) {
        this.x = x;
    }

    static String of(PermitSets x) {
        Fingerprint print = new Fingerprint(x);
        print.sets();
        print.memberships();
        print.text();
        print.marksAndThings();
        print.directOnes();
        return print.seen.toString();
    }

    private void sets() {
        for (int set = 0; set < 2; set++) {
            int size = x.size(set);
            named(" size").seen(size);
            for (int i = 0; i < size; i++) {
                named(" policy");
                for (int what = 0; what < 5; what++) {
                    seen(x.policy(set, i, what));
                }
                seen(x.needless(set, i));
            }
            named(" ask");
            for (int request : REQUESTS) {
                seen(x.ask(set, request, 1));
            }
            named(" allows").seen(x.allows(set, 0)).seen(x.allows(set, 1)).seen(x.allows(set, 2));
        }
        named(" compare").seen(x.compare(0)).seen(x.compare(1)).seen(x.compare(2));
    }

    private void memberships() {
        for (int kind = 0; kind < 4; kind += 2) {
            named(" isIn");
            for (int pair = 0; pair < 16; pair++) {
                seen(x.isIn(kind, pair / 4, pair % 4) ? 1 : 0);
            }
        }
    }

    /** What the text is can be seen by reading it alone, for which a set must have room. */
    private void text() {
        for (int set = 0; set < 2; set++) {
            for (int left = x.size(set); left > 0; left--) {
                x.drop(set, 0);
            }
        }
        named(" text").seen(x.add(1));
        for (int what = 0; what < 5; what++) {
            seen(x.policy(1, 0, what));
        }
        seen(x.wipe());
    }

    private void marksAndThings() {
        for (String probe : PROBES) {
            Check.add(x, 0, probe);
        }
        named(" marks, levels, owners");
        for (int one = 0; one < 4; one++) {
            for (int n = 0; n < 8; n++) {
                seen(x.ask(0, Check.request(one, 0, one, n, 0, 0), 1));
            }
            seen(x.ask(0, Check.request(one, 0, 0, 0, 0, 0), 2));
            for (int thing = 0; thing < 4; thing++) {
                seen(x.ask(0, Check.request(one, 0, thing, 0, 0, 0), 1));
            }
        }
    }

    private void directOnes() {
        for (int kind = 0; kind < 4; kind++) {
            named(" directly");
            for (int pair = 0; pair < 16; pair++) {
                seen(x.leave(kind, pair / 4, pair % 4) ? 1 : 0);
            }
        }
    }

    private Fingerprint named(String name) {
        seen.append(name);
        return this;
    }

    private Fingerprint seen(int answer) {
        seen.append(' ').append(answer);
        return this;
    }
}
