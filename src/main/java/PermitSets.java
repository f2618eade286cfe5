/**
 * Two sets of policies that say who may do what to which thing: read, checked, asked about single
 * requests and compared for all requests. ../shared/DOC.md says what each call answers.
 */
public final class PermitSets {
    public static final int NONE = -1, BAD = -2, FULL = -3;

    /** How many persons, groups, deeds, things, folders and marks there are, each. */
    private static final int EACH = 4;
    private static final int HIGHEST_NUMBER = 7;
    private static final int SETS = 2;
    private static final int SET_LIMIT = 8;
    private static final int TEXT_LIMIT = 160;
    private static final int ATOM_LIMIT = 12;
    private static final int DEPTH_LIMIT = 6;
    private static final int REQUESTS = 2048;

    /**
     * Rows over all requests hold one word for each person, deed and thing, and in it one bit for
     * each n, b and c: request r is bit r % 32 of word r / 32.
     */
    private static final int WORDS = 64, BITS = 32;

    private static final int FAILS = 0, APPLIES = 1, ERRS = 2;

    private final World world;
    private final Judge judge;
    private final Reader reader;
    private final PolicySet first, second;
    private final int[] answer;

    public PermitSets() {
        world = new World();
        judge = new Judge(world);
        reader = new Reader();
        first = new PolicySet();
        second = new PolicySet();
        answer = new int[WORDS];
    }

    // The world

    public boolean join(int kind, int who, int into) {
        return isKind(kind) && isOne(who) && isOne(into) && world.link(kind, who, into);
    }

    public boolean leave(int kind, int who, int out) {
        return isKind(kind) && isOne(who) && isOne(out) && world.unlink(kind, who, out);
    }

    public boolean mark(int person, int mark, int value) {
        boolean good = isOne(person) && isOne(mark) && (value == NONE || isNumber(value));
        if (good) {
            world.setMark(person, mark, value);
        }
        return good;
    }

    public boolean thing(int thing, int level, int owner) {
        boolean good = isOne(thing) && isNumber(level) && isOne(owner);
        if (good) {
            world.setThing(thing, level, owner);
        }
        return good;
    }

    public boolean isIn(int kind, int who, int where) {
        if (!isOne(who) || !isOne(where)) {
            return false;
        }
        if (kind == 0) {
            return hasBit(world.groupsOf(who), where);
        }
        return kind == 2 && hasBit(world.foldersOf(who), where);
    }

    // Policies

    public int put(long bytes, int n) {
        if (n < 1 || n > 8) {
            return BAD;
        }
        return reader.append(bytes, n) ? reader.length() : FULL;
    }

    public int wipe() {
        return reader.clear();
    }

    public int add(int set) {
        if (!isSet(set)) {
            return BAD;
        }
        PolicySet policies = chosen(set);
        int refusal = reader.read(policies.spare());
        if (refusal != 0) {
            return refusal;
        }
        return policies.count() == SET_LIMIT ? FULL : policies.keepSpare();
    }

    public int drop(int set, int i) {
        return isPolicy(set, i) ? chosen(set).remove(i) : BAD;
    }

    public int size(int set) {
        return isSet(set) ? chosen(set).count() : NONE;
    }

    public int policy(int set, int i, int what) {
        if (!isPolicy(set, i)) {
            return BAD;
        }
        Policy one = chosen(set).get(i);
        switch (what) {
            case 0: return one.permits ? 1 : 0;
            case 1: return one.atoms;
            case 2: return one.safe ? 1 : 0;
            case 3: judge.survey(one); return countBits(one.applying);
            case 4: judge.survey(one); return countBits(one.erring);
            default: return BAD;
        }
    }

    // Requests

    public int ask(int set, int request, int what) {
        if (!isSet(set) || request < 0 || request >= REQUESTS) {
            return BAD;
        }
        switch (what) {
            case 0: return chosen(set).isAllowed(judge, request) ? 1 : 0;
            case 1: return chosen(set).withVerdict(judge, request, APPLIES);
            case 2: return chosen(set).withVerdict(judge, request, ERRS);
            default: return BAD;
        }
    }

    public int allows(int set, int k) {
        if (!isSet(set) || k < 0 || k > 2) {
            return BAD;
        }
        PolicySet policies = chosen(set);
        policies.survey(judge);
        for (int word = 0; word < WORDS; word++) {
            answer[word] = policies.allowedBits(word, NONE);
        }
        if (k == 0) {
            return countBits(answer);
        }
        return k == 1 ? firstBit(answer) : lastBit(answer);
    }

    public int compare(int k) {
        if (k < 0 || k > 2) {
            return BAD;
        }
        first.survey(judge);
        second.survey(judge);
        for (int word = 0; word < WORDS; word++) {
            answer[word] = difference(first.allowedBits(word, NONE), second.allowedBits(word, NONE), k);
        }
        return k == 2 ? firstBit(answer) : countBits(answer);
    }

    public int needless(int set, int i) {
        if (!isPolicy(set, i)) {
            return BAD;
        }
        PolicySet policies = chosen(set);
        policies.survey(judge);
        for (int word = 0; word < WORDS; word++) {
            if (policies.allowedBits(word, NONE) != policies.allowedBits(word, i)) {
                return 0;
            }
        }
        return 1;
    }

    private PolicySet chosen(int set) {
        return set == 0 ? first : second;
    }

    private boolean isPolicy(int set, int i) {
        return isSet(set) && i >= 0 && i < chosen(set).count();
    }

    private static boolean isSet(int set) {
        return set >= 0 && set < SETS;
    }

    private static boolean isKind(int kind) {
        return kind >= 0 && kind <= 3;
    }

    private static boolean isOne(int number) {
        return number >= 0 && number < EACH;
    }

    private static boolean isNumber(int value) {
        return value >= 0 && value <= HIGHEST_NUMBER;
    }

    private static int difference(int left, int right, int k) {
        if (k == 0) {
            return left & ~right;
        }
        return k == 1 ? right & ~left : left ^ right;
    }

    private static boolean hasBit(int bits, int bit) {
        return (bits >> bit & 1) == 1;
    }

    private static int countBits(int[] words) {
        int count = 0;
        for (int word = 0; word < words.length; word++) {
            count += Integer.bitCount(words[word]);
        }
        return count;
    }

    private static int firstBit(int[] words) {
        for (int request = 0; request < words.length * BITS; request++) {
            if (hasBit(words[request / BITS], request % BITS)) {
                return request;
            }
        }
        return NONE;
    }

    private static int lastBit(int[] words) {
        for (int request = words.length * BITS - 1; request >= 0; request--) {
            if (hasBit(words[request / BITS], request % BITS)) {
                return request;
            }
        }
        return NONE;
    }

    private static int personOf(int request) {
        return request >> 9;
    }

    private static int deedOf(int request) {
        return request >> 7 & 3;
    }

    private static int thingOf(int request) {
        return request >> 5 & 3;
    }

    /** Members (persons, things) in holders (groups, folders), and holders in one another. */
    private static final class Nest {
        /** The holders that each one is in directly, as bits. */
        private final int[] ofMember = new int[EACH], ofHolder = new int[EACH];
        /** All holders of each member: kept, as judging looks at them far more often than they change. */
        private final int[] reached = new int[EACH];

        boolean link(boolean holder, int who, int into) {
            if (holder && hasBit(upward(1 << into), who)) {
                return false;
            }
            int[] row = holder ? ofHolder : ofMember;
            row[who] |= 1 << into;
            reach();
            return true;
        }

        boolean unlink(boolean holder, int who, int out) {
            int[] row = holder ? ofHolder : ofMember;
            boolean was = hasBit(row[who], out);
            row[who] &= ~(1 << out);
            reach();
            return was;
        }

        int holdersOf(int member) {
            return reached[member];
        }

        private void reach() {
            for (int member = 0; member < EACH; member++) {
                reached[member] = upward(ofMember[member]);
            }
        }

        private int upward(int holders) {
            int all = holders;
            for (int round = 0; round < EACH; round++) {
                for (int holder = 0; holder < EACH; holder++) {
                    all |= hasBit(all, holder) ? ofHolder[holder] : 0;
                }
            }
            return all;
        }
    }

    private static final class World {
        private final Nest persons = new Nest(), things = new Nest();
        /** The number of each person's each mark, or NONE. */
        private final int[] marks = new int[EACH * EACH];
        private final int[] levels = new int[EACH], owners = new int[EACH];
        /** Grows with each change, so that what was reckoned before is known to be old. */
        private int changes = 0;

        World() {
            for (int i = 0; i < marks.length; i++) {
                marks[i] = NONE;
            }
        }

        boolean link(int kind, int who, int into) {
            changes++;
            return nestOf(kind).link(movesHolder(kind), who, into);
        }

        boolean unlink(int kind, int who, int out) {
            changes++;
            return nestOf(kind).unlink(movesHolder(kind), who, out);
        }

        void setMark(int person, int mark, int value) {
            changes++;
            marks[person * EACH + mark] = value;
        }

        void setThing(int thing, int level, int owner) {
            changes++;
            levels[thing] = level;
            owners[thing] = owner;
        }

        int groupsOf(int person) {
            return persons.holdersOf(person);
        }

        int foldersOf(int thing) {
            return things.holdersOf(thing);
        }

        /** An atom's value for a request, a truth as 1 or 0; NONE where it is an error. */
        int valueOf(int atom, int with, int request) {
            int person = personOf(request);
            int thing = thingOf(request);
            switch (atom) {
                case 'n': return request >> 2 & 7;
                case 'b': return request >> 1 & 1;
                case 'c': return request & 1;
                case 'g': return persons.holdersOf(person) >> with & 1;
                case 'f': return things.holdersOf(thing) >> with & 1;
                case 'h': return marks[person * EACH + with] == NONE ? 0 : 1;
                case 'm': return marks[person * EACH + with];
                case 'o': return owners[thing] == person ? 1 : 0;
                case 'l': return levels[thing];
                default: return with;
            }
        }

        private Nest nestOf(int kind) {
            return kind < 2 ? persons : things;
        }

        private static boolean movesHolder(int kind) {
            return kind % 2 == 1;
        }
    }

    /**
     * A policy as it was read: its scopes and, for its conditions, a row of steps, reckoned on a pile
     * of values. A step bears the byte that it stands for: an atom puts its value on the pile; the
     * signs ! + - < = # take values and put one; & | [ : may leave out the steps up to one behind
     * them; ? ends a condition, and the policy fails if the value is false.
     */
    private static final class Policy {
        static final int ANY = -1;

        boolean permits, safe;
        int atoms;
        /** The bits of a request's number that stand for those of n, b and c that the policy names. */
        int looksAt;
        /** ANY, or a number of one, or EACH more than the number of a group or folder. */
        int person, deed, thing;
        /** Each step comes from a byte of its own (UNLESS, with two, has three), so these rows do. */
        final int[] kinds = new int[TEXT_LIMIT], withs = new int[TEXT_LIMIT];
        int steps;
        /** The requests to which it applies, and for which it errs, as the world was at surveyedAt. */
        final int[] applying = new int[WORDS], erring = new int[WORDS];
        int surveyedAt;

        void begin() {
            steps = 0;
            safe = true;
            looksAt = 0;
            surveyedAt = NONE;
        }

        void append(int kind, int with) {
            if (steps < TEXT_LIMIT) {
                kinds[steps] = kind;
                withs[steps] = with;
                steps++;
                looksAt |= bitsOf(kind);
            }
        }

        /** Lets a step that may leave out others go on with the step that comes next. */
        void landHere(int step) {
            if (step >= 0 && step < steps) {
                withs[step] = steps;
            }
        }

        private static int bitsOf(int atom) {
            switch (atom) {
                case 'n': return 7 << 2;
                case 'b': return 2;
                case 'c': return 1;
                default: return 0;
            }
        }
    }

    /** Says of a policy and a request whether the policy fails, applies or errs. */
    private static final class Judge {
        private final World world;
        /** No more values wait at once than a policy has atoms. */
        private final int[] pile = new int[ATOM_LIMIT];
        private int top, resume;

        Judge(World world) {
            this.world = world;
        }

        int verdict(Policy policy, int request) {
            boolean covered = covers(policy, personOf(request), thingOf(request))
                    && isInScope(policy.deed, deedOf(request), 0);
            return covered ? conditions(policy, request) : FAILS;
        }

        /** Reckons the verdicts for all requests, unless they are known for the world as it is. */
        void survey(Policy policy) {
            if (policy.surveyedAt == world.changes) {
                return;
            }
            policy.surveyedAt = world.changes;
            for (int word = 0; word < WORDS; word++) {
                policy.applying[word] = 0;
                policy.erring[word] = 0;
            }
            for (int person = 0; person < EACH; person++) {
                for (int thing = 0; thing < EACH; thing++) {
                    if (covers(policy, person, thing)) {
                        surveyPair(policy, person, thing);
                    }
                }
            }
        }

        /** Conditions never look at the deed, and seldom at all of n, b, c: one reckoning serves many. */
        private void surveyPair(Policy policy, int person, int thing) {
            int applying = 0;
            int erring = 0;
            for (int bit = 0; bit < BITS; bit++) {
                int alike = bit & policy.looksAt;
                if (alike == bit) {
                    int verdict = conditions(policy, person * 512 + thing * BITS + bit);
                    applying |= verdict == APPLIES ? 1 << bit : 0;
                    erring |= verdict == ERRS ? 1 << bit : 0;
                } else {
                    applying |= hasBit(applying, alike) ? 1 << bit : 0;
                    erring |= hasBit(erring, alike) ? 1 << bit : 0;
                }
            }
            for (int deed = 0; deed < EACH; deed++) {
                if (isInScope(policy.deed, deed, 0)) {
                    int word = person * 16 + deed * 4 + thing;
                    policy.applying[word] = applying;
                    policy.erring[word] = erring;
                }
            }
        }

        private boolean covers(Policy policy, int person, int thing) {
            return isInScope(policy.person, person, world.groupsOf(person))
                    && isInScope(policy.thing, thing, world.foldersOf(thing));
        }

        private static boolean isInScope(int scope, int one, int holders) {
            if (scope >= EACH) {
                return hasBit(holders, scope - EACH);
            }
            return scope == Policy.ANY || scope == one;
        }

        private int conditions(Policy policy, int request) {
            top = 0;
            resume = 0;
            for (int step = 0; step < policy.steps; step++) {
                if (step < resume) {
                    continue;
                }
                int kind = policy.kinds[step];
                int with = policy.withs[step];
                switch (kind) {
                    case '&': case '|': case '[': case ':':
                        branch(kind, with);
                        break;
                    case '!': case '+': case '-': case '<': case '=': case '#':
                        reckon(kind);
                        break;
                    case '?':
                        if (pull() == 0) {
                            return FAILS;
                        }
                        break;
                    default:
                        int value = world.valueOf(kind, with, request);
                        // Nothing undoes an error once it is looked at, so the policy errs at once.
                        if (value == NONE) {
                            return ERRS;
                        }
                        push(value);
                }
            }
            return APPLIES;
        }

        private void branch(int kind, int target) {
            if (kind == ':') {
                resume = target;
                return;
            }
            int value = pull();
            boolean leavesOut = kind == '|' ? value != 0 : value == 0;
            if (leavesOut) {
                resume = target;
            }
            // What & and | leave out would have given the value; [ has only chosen.
            if (leavesOut && kind != '[') {
                push(value);
            }
        }

        private void reckon(int kind) {
            int right = pull();
            if (kind == '!') {
                push(1 - right);
                return;
            }
            int left = pull();
            switch (kind) {
                case '+': push(left + right); break;
                case '-': push(left - right); break;
                case '<': push(left < right ? 1 : 0); break;
                case '=': push(left == right ? 1 : 0); break;
                default: push(left != right ? 1 : 0);
            }
        }

        private void push(int value) {
            if (top < ATOM_LIMIT) {
                pile[top] = value;
                top++;
            }
        }

        private int pull() {
            if (top > 0) {
                top--;
            }
            return pile[top];
        }
    }

    /** The policies of one set, and behind them rooms that are free, the next one for reading into. */
    private static final class PolicySet {
        private final Policy[] rooms = new Policy[SET_LIMIT + 1];
        private int count = 0;

        PolicySet() {
            for (int i = 0; i < rooms.length; i++) {
                rooms[i] = new Policy();
            }
        }

        int count() {
            return count;
        }

        Policy get(int i) {
            return rooms[i];
        }

        Policy spare() {
            return rooms[count];
        }

        int keepSpare() {
            count++;
            return count - 1;
        }

        int remove(int i) {
            Policy gone = rooms[i];
            count--;
            for (int behind = i; behind < count; behind++) {
                rooms[behind] = rooms[behind + 1];
            }
            rooms[count] = gone;
            return count;
        }

        void survey(Judge judge) {
            for (int i = 0; i < count; i++) {
                judge.survey(rooms[i]);
            }
        }

        /** One word of the requests that the set allows, as surveyed, without one of its policies. */
        int allowedBits(int word, int without) {
            int permitted = 0;
            int forbidden = 0;
            for (int i = 0; i < count; i++) {
                int applying = i == without ? 0 : rooms[i].applying[word];
                if (rooms[i].permits) {
                    permitted |= applying;
                } else {
                    forbidden |= applying;
                }
            }
            return permitted & ~forbidden;
        }

        boolean isAllowed(Judge judge, int request) {
            boolean permitted = false;
            for (int i = 0; i < count; i++) {
                if (judge.verdict(rooms[i], request) == APPLIES) {
                    if (!rooms[i].permits) {
                        return false;
                    }
                    permitted = true;
                }
            }
            return permitted;
        }

        int withVerdict(Judge judge, int request, int verdict) {
            int bits = 0;
            for (int i = 0; i < count; i++) {
                bits |= judge.verdict(rooms[i], request) == verdict ? 1 << i : 0;
            }
            return bits;
        }
    }

    /**
     * The text, and the reading of it as a policy: types and proofs are told on the way, and the
     * first refusal stays. After it next() tells of no byte, so that all that is open ends by itself.
     */
    private static final class Reader {
        private static final int NUMBER = 0, TRUTH = 1;

        private final int[] text = new int[TEXT_LIMIT];
        private int length = 0;

        private Policy policy;
        private int place, refusal, atoms;
        /** The marks, as bits, that what was read last proves. */
        private int proved;

        boolean append(long bytes, int n) {
            if (length + n > TEXT_LIMIT) {
                return false;
            }
            for (int i = 0; i < n; i++) {
                text[length + i] = (int) (bytes >> 8 * i) & 255;
            }
            length += n;
            return true;
        }

        int clear() {
            int had = length;
            length = 0;
            return had;
        }

        int length() {
            return length;
        }

        /** Answers 0, or what the text is refused for. */
        int read(Policy into) {
            policy = into;
            policy.begin();
            place = 0;
            refusal = 0;
            atoms = 0;
            policy.permits = next() == '+';
            if (next() == '-') {
                take('-');
            } else {
                take('+');
            }
            policy.person = scope(true);
            policy.deed = scope(false);
            policy.thing = scope(true);
            conditions();
            take(';');
            if (place < length) {
                refuseByte();
            }
            policy.atoms = atoms;
            return refusal;
        }

        private int scope(boolean mayBeHolder) {
            if (next() == '*') {
                take('*');
                return Policy.ANY;
            }
            if (mayBeHolder && next() == '@') {
                take('@');
                return EACH + digit();
            }
            return digit();
        }

        private void conditions() {
            int known = 0;
            for (int i = 0; i < TEXT_LIMIT && (next() == '?' || next() == '!'); i++) {
                boolean unless = next() == '!';
                place++;
                take('{');
                int start = place;
                int type = alternatives(0, known);
                lookAtEnded(type, TRUTH, start);
                take('}');
                if (unless) {
                    policy.append('!', 0);
                } else {
                    known |= proved;
                }
                policy.append('?', 0);
            }
        }

        private int alternatives(int depth, int known) {
            int start = place;
            int type = ands(depth, known);
            int common = proved;
            for (int i = 0; i < TEXT_LIMIT && next() == '|'; i++) {
                lookAt(type, TRUTH, start);
                int or = branch('|');
                int side = place;
                type = ands(depth, known);
                lookAtEnded(type, TRUTH, side);
                common &= proved;
                policy.landHere(or);
            }
            proved = common;
            return type;
        }

        private int ands(int depth, int known) {
            int start = place;
            int type = comparison(depth, known);
            int together = proved;
            for (int i = 0; i < TEXT_LIMIT && next() == '&'; i++) {
                lookAt(type, TRUTH, start);
                int and = branch('&');
                int side = place;
                type = comparison(depth, known | together);
                lookAtEnded(type, TRUTH, side);
                together |= proved;
                policy.landHere(and);
            }
            proved = together;
            return type;
        }

        private int comparison(int depth, int known) {
            int start = place;
            int left = sum(depth, known);
            int sign = next();
            if (sign != '<' && sign != '=' && sign != '#') {
                return left;
            }
            if (sign == '<') {
                lookAt(left, NUMBER, start);
            }
            take(sign);
            int side = place;
            int right = sum(depth, known);
            lookAtEnded(right, left, side);
            policy.append(sign, 0);
            proved = 0;
            return TRUTH;
        }

        private int sum(int depth, int known) {
            int start = place;
            int type = term(depth, known);
            for (int i = 0; i < TEXT_LIMIT && (next() == '+' || next() == '-'); i++) {
                int sign = next();
                lookAt(type, NUMBER, start);
                take(sign);
                int side = place;
                type = term(depth, known);
                lookAt(type, NUMBER, side);
                policy.append(sign, 0);
                proved = 0;
            }
            return type;
        }

        private int term(int depth, int known) {
            int sign = next();
            if (sign != '!' && sign != '(' && sign != '[') {
                return atom(known);
            }
            if (depth == DEPTH_LIMIT) {
                refuseByte();
                return TRUTH;
            }
            take(sign);
            switch (sign) {
                case '!': return not(depth + 1, known);
                case '(': return bracketed(depth + 1, known);
                default: return choice(depth + 1, known);
            }
        }

        private int not(int depth, int known) {
            int start = place;
            int type = term(depth, known);
            lookAt(type, TRUTH, start);
            policy.append('!', 0);
            proved = 0;
            return TRUTH;
        }

        private int bracketed(int depth, int known) {
            int type = alternatives(depth, known);
            take(')');
            return type;
        }

        private int choice(int depth, int known) {
            int start = place;
            int front = alternatives(depth, known);
            lookAtEnded(front, TRUTH, start);
            int whether = proved;
            int toThird = branchAt(':', '[');
            int type = alternatives(depth, known | whether);
            int chosen = whether | proved;
            int toEnd = branchAt(':', ':');
            policy.landHere(toThird);
            int last = place;
            int lastType = alternatives(depth, known);
            lookAtEnded(lastType, type, last);
            take(']');
            policy.landHere(toEnd);
            proved = chosen & proved;
            return type;
        }

        private int atom(int known) {
            int sign = next();
            int type = typeOf(sign);
            proved = 0;
            if (type == NONE || atoms == ATOM_LIMIT) {
                refuseByte();
                return NUMBER;
            }
            place++;
            atoms++;
            int with = isNumbered(sign) ? digit() : constantOf(sign);
            policy.append(sign, with);
            if (sign == 'h') {
                proved = 1 << with;
            }
            if (sign == 'm' && !hasBit(known, with)) {
                policy.safe = false;
            }
            return type;
        }

        /** An atom's type, by its first byte; NONE where that starts no atom. */
        private static int typeOf(int sign) {
            switch (sign) {
                case 'T': case 'F': case 'b': case 'c': case 'o': case 'g': case 'f': case 'h':
                    return TRUTH;
                case 'n': case 'l': case 'm':
                    return NUMBER;
                default:
                    return sign >= '0' && sign <= '9' ? NUMBER : NONE;
            }
        }

        private static boolean isNumbered(int sign) {
            return sign == 'g' || sign == 'f' || sign == 'h' || sign == 'm';
        }

        /** What T, F and digits stand for; of no use to other atoms. */
        private static int constantOf(int sign) {
            if (sign == 'T') {
                return 1;
            }
            return sign >= '0' && sign <= '9' ? sign - '0' : 0;
        }

        private int digit() {
            int value = next() - '0';
            if (!isOne(value)) {
                refuseByte();
                return 0;
            }
            place++;
            return value;
        }

        /** The byte at hand; NONE where there is none, or no more is read. */
        private int next() {
            return refusal == 0 && place < length ? text[place] : NONE;
        }

        private void take(int sign) {
            if (next() == sign) {
                place++;
            } else {
                refuseByte();
            }
        }

        private int branch(int sign) {
            return branchAt(sign, sign);
        }

        private int branchAt(int sign, int kind) {
            take(sign);
            policy.append(kind, 0);
            return policy.steps - 1;
        }

        private void lookAt(int type, int wanted, int start) {
            if (type != wanted && refusal == 0) {
                refusal = -1000 - start;
            }
        }

        /** Where bytes are missing a part has not ended: then that is what will be refused. */
        private void lookAtEnded(int type, int wanted, int start) {
            if (place < length) {
                lookAt(type, wanted, start);
            }
        }

        /** Behind the last byte this says that bytes are missing: the place is their number there. */
        private void refuseByte() {
            if (refusal == 0) {
                refusal = -10 - place;
            }
        }
    }
}
