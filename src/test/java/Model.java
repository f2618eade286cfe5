import java.util.ArrayDeque;
import java.util.ArrayList;
import java.util.List;
import java.util.TreeSet;

/**
 * The document once more, written in another way and without regard to speed, to hold the class
 * against: reading is a machine that takes byte after byte, values are reckoned on a tree.
 */
final class Model {
    private static final int NONE = -1, BAD = -2, FULL = -3;

    private final boolean[][][] direct = new boolean[4][4][4];
    private final Integer[][] marks = new Integer[4][4];
    private final int[] level = new int[4], owner = new int[4];
    private final List<List<Rule>> sets = List.of(new ArrayList<>(), new ArrayList<>());
    private String text = "";

    boolean join(int kind, int who, int into) {
        if (!one(kind) || !one(who) || !one(into)) {
            return false;
        }
        if (kind % 2 == 1 && (who == into || reaches(kind, into, who))) {
            return false;
        }
        direct[kind][who][into] = true;
        return true;
    }

    boolean leave(int kind, int who, int out) {
        if (!one(kind) || !one(who) || !one(out)) {
            return false;
        }
        boolean was = direct[kind][who][out];
        direct[kind][who][out] = false;
        return was;
    }

    boolean mark(int person, int mark, int value) {
        if (!one(person) || !one(mark) || value < -1 || value > 7) {
            return false;
        }
        marks[person][mark] = value == -1 ? null : value;
        return true;
    }

    boolean thing(int thing, int itsLevel, int itsOwner) {
        if (!one(thing) || itsLevel < 0 || itsLevel > 7 || !one(itsOwner)) {
            return false;
        }
        level[thing] = itsLevel;
        owner[thing] = itsOwner;
        return true;
    }

    boolean isIn(int kind, int who, int where) {
        return (kind == 0 || kind == 2) && one(who) && one(where) && reaches(kind, who, where);
    }

    private boolean reaches(int kind, int who, int where) {
        for (int next = 0; next < 4; next++) {
            if (direct[kind][who][next] && (next == where || reaches(kind | 1, next, where))) {
                return true;
            }
        }
        return false;
    }

    int put(long bytes, int n) {
        if (n < 1 || n > 8) {
            return BAD;
        }
        if (text.length() + n > 160) {
            return FULL;
        }
        for (int i = 0; i < n; i++) {
            text += (char) (bytes >>> 8 * i & 255);
        }
        return text.length();
    }

    int wipe() {
        int had = text.length();
        text = "";
        return had;
    }

    int add(int set) {
        if (set != 0 && set != 1) {
            return BAD;
        }
        int refusal = new Reading(text).refusal();
        if (refusal != 0) {
            return refusal;
        }
        if (sets.get(set).size() == 8) {
            return FULL;
        }
        sets.get(set).add(new Rule(text));
        return sets.get(set).size() - 1;
    }

    int drop(int set, int i) {
        if (!isRule(set, i)) {
            return BAD;
        }
        sets.get(set).remove(i);
        return sets.get(set).size();
    }

    int size(int set) {
        return set == 0 || set == 1 ? sets.get(set).size() : NONE;
    }

    int policy(int set, int i, int what) {
        if (!isRule(set, i) || what < 0 || what > 4) {
            return BAD;
        }
        Rule rule = sets.get(set).get(i);
        if (what == 0) {
            return rule.permits ? 1 : 0;
        }
        if (what == 1) {
            return rule.atoms;
        }
        if (what == 2) {
            return rule.isSafe() ? 1 : 0;
        }
        int count = 0;
        for (int request = 0; request < 2048; request++) {
            count += verdict(rule, request) == (what == 3 ? 'a' : 'e') ? 1 : 0;
        }
        return count;
    }

    int ask(int set, int request, int what) {
        if (set < 0 || set > 1 || request < 0 || request > 2047 || what < 0 || what > 2) {
            return BAD;
        }
        if (what == 0) {
            return allowed(sets.get(set), request) ? 1 : 0;
        }
        int bits = 0;
        for (int i = 0; i < sets.get(set).size(); i++) {
            bits += verdict(sets.get(set).get(i), request) == (what == 1 ? 'a' : 'e') ? 1 << i : 0;
        }
        return bits;
    }

    int allows(int set, int k) {
        if (set < 0 || set > 1 || k < 0 || k > 2) {
            return BAD;
        }
        TreeSet<Integer> all = allowed(sets.get(set));
        return k == 0 ? all.size() : all.isEmpty() ? NONE : k == 1 ? all.first() : all.last();
    }

    int compare(int k) {
        if (k < 0 || k > 2) {
            return BAD;
        }
        TreeSet<Integer> onlyFirst = allowed(sets.get(0));
        onlyFirst.removeAll(allowed(sets.get(1)));
        TreeSet<Integer> onlySecond = allowed(sets.get(1));
        onlySecond.removeAll(allowed(sets.get(0)));
        if (k < 2) {
            return k == 0 ? onlyFirst.size() : onlySecond.size();
        }
        onlyFirst.addAll(onlySecond);
        return onlyFirst.isEmpty() ? NONE : onlyFirst.first();
    }

    int needless(int set, int i) {
        if (!isRule(set, i)) {
            return BAD;
        }
        List<Rule> others = new ArrayList<>(sets.get(set));
        others.remove(i);
        return allowed(others).equals(allowed(sets.get(set))) ? 1 : 0;
    }

    private boolean isRule(int set, int i) {
        return (set == 0 || set == 1) && i >= 0 && i < sets.get(set).size();
    }

    private static boolean one(int number) {
        return number >= 0 && number <= 3;
    }

    private TreeSet<Integer> allowed(List<Rule> rules) {
        TreeSet<Integer> all = new TreeSet<>();
        for (int request = 0; request < 2048; request++) {
            if (allowed(rules, request)) {
                all.add(request);
            }
        }
        return all;
    }

    private boolean allowed(List<Rule> rules, int request) {
        boolean permitted = false;
        boolean forbidden = false;
        for (Rule rule : rules) {
            boolean applies = verdict(rule, request) == 'a';
            permitted |= applies && rule.permits;
            forbidden |= applies && !rule.permits;
        }
        return permitted && !forbidden;
    }

    /** a: applies, e: errs, f: fails. */
    private char verdict(Rule rule, int request) {
        int person = request / 512;
        int thing = request / 32 % 4;
        if (!scoped(rule.scopes[0], 0, person) || !scoped(rule.scopes[1], 1, request / 128 % 4)
                || !scoped(rule.scopes[2], 2, thing)) {
            return 'f';
        }
        for (int i = 0; i < rule.conditions.size(); i++) {
            Object value = value(rule.conditions.get(i), request);
            if (value == null) {
                return 'e';
            }
            if (value.equals(rule.signs.get(i) == '!')) {
                return 'f';
            }
        }
        return 'a';
    }

    private boolean scoped(String scope, int kind, int which) {
        if (scope.equals("*")) {
            return true;
        }
        int digit = scope.charAt(scope.length() - 1) - '0';
        return scope.startsWith("@") ? isIn(kind, which, digit) : digit == which;
    }

    /** A Boolean or an Integer; null is an error. */
    private Object value(Node node, int request) {
        switch (node.sign) {
            case '|': case '&': return row(node, request);
            case '[': {
                Object front = value(node.parts.get(0), request);
                return front == null ? null : value(node.parts.get((Boolean) front ? 1 : 2), request);
            }
            case '(': return value(node.parts.get(0), request);
            case '!': {
                Object inner = value(node.parts.get(0), request);
                return inner == null ? null : (Object) !(Boolean) inner;
            }
            case '<': case '=': case '#': case '+': case '-': {
                Object left = value(node.parts.get(0), request);
                Object right = value(node.parts.get(1), request);
                return left == null || right == null ? null : joined(node.sign, left, right);
            }
            default: return atom(node, request);
        }
    }

    private Object row(Node node, int request) {
        Boolean last = null;
        for (Node part : node.parts) {
            last = (Boolean) value(part, request);
            if (last == null || last == (node.sign == '|')) {
                return last;
            }
        }
        return last;
    }

    private static Object joined(char sign, Object left, Object right) {
        switch (sign) {
            case '<': return (Integer) left < (Integer) right;
            case '=': return left.equals(right);
            case '#': return !left.equals(right);
            case '+': return (Integer) left + (Integer) right;
            default: return (Integer) left - (Integer) right;
        }
    }

    private Object atom(Node node, int request) {
        int person = request / 512;
        int thing = request / 32 % 4;
        switch (node.sign) {
            case 'T': return true;
            case 'F': return false;
            case 'n': return request / 4 % 8;
            case 'b': return request / 2 % 2 == 1;
            case 'c': return request % 2 == 1;
            case 'g': return isIn(0, person, node.digit);
            case 'f': return isIn(2, thing, node.digit);
            case 'h': return marks[person][node.digit] != null;
            case 'm': return marks[person][node.digit];
            case 'o': return owner[thing] == person;
            case 'l': return level[thing];
            default: return node.sign - '0';
        }
    }

    static final class Node {
        final char sign;
        final int digit;
        final List<Node> parts;

        Node(char sign, int digit, List<Node> parts) {
            this.sign = sign;
            this.digit = digit;
            this.parts = parts;
        }
    }

    /** A policy whose text has been found good: nothing is checked here any more. */
    static final class Rule {
        final boolean permits;
        final String[] scopes = new String[3];
        final List<Character> signs = new ArrayList<>();
        final List<Node> conditions = new ArrayList<>();
        int atoms = 0;
        private final String text;
        private int at = 1;
        private boolean safe;

        Rule(String text) {
            this.text = text;
            permits = text.charAt(0) == '+';
            for (int i = 0; i < 3; i++) {
                int n = text.charAt(at) == '@' ? 2 : 1;
                scopes[i] = text.substring(at, at + n);
                at += n;
            }
            while (text.charAt(at) != ';') {
                signs.add(text.charAt(at));
                at += 2;
                conditions.add(row("|"));
                at++;
            }
        }

        private Node row(String sign) {
            List<Node> parts = new ArrayList<>();
            do {
                at += parts.isEmpty() ? 0 : 1;
                parts.add(sign.equals("|") ? row("&") : comparison());
            } while (sign.indexOf(text.charAt(at)) >= 0);
            return parts.size() == 1 ? parts.get(0) : new Node(sign.charAt(0), 0, parts);
        }

        private Node comparison() {
            Node left = sum();
            char sign = text.charAt(at);
            if ("<=#".indexOf(sign) < 0) {
                return left;
            }
            at++;
            return new Node(sign, 0, List.of(left, sum()));
        }

        private Node sum() {
            Node left = term();
            while ("+-".indexOf(text.charAt(at)) >= 0) {
                char sign = text.charAt(at++);
                left = new Node(sign, 0, List.of(left, term()));
            }
            return left;
        }

        private Node term() {
            char sign = text.charAt(at++);
            if (sign == '!') {
                return new Node(sign, 0, List.of(term()));
            }
            if (sign == '(' || sign == '[') {
                List<Node> parts = new ArrayList<>();
                do {
                    parts.add(row("|"));
                } while (text.charAt(at++) == ':');
                return new Node(sign, 0, parts);
            }
            atoms++;
            int digit = "gfhm".indexOf(sign) >= 0 ? text.charAt(at++) - '0' : 0;
            return new Node(sign, digit, List.of());
        }

        boolean isSafe() {
            safe = true;
            TreeSet<Integer> known = new TreeSet<>();
            for (int i = 0; i < conditions.size(); i++) {
                TreeSet<Integer> proved = proves(conditions.get(i), known);
                if (signs.get(i) == '?') {
                    known.addAll(proved);
                }
            }
            return safe;
        }

        private TreeSet<Integer> proves(Node node, TreeSet<Integer> known) {
            TreeSet<Integer> proved = new TreeSet<>();
            switch (node.sign) {
                case 'h': proved.add(node.digit); return proved;
                case 'm': safe &= known.contains(node.digit); return proved;
                case '(': return proves(node.parts.get(0), known);
                case '&':
                    for (Node part : node.parts) {
                        proved.addAll(proves(part, both(known, proved)));
                    }
                    return proved;
                case '|':
                    proved.addAll(List.of(0, 1, 2, 3));
                    for (Node part : node.parts) {
                        proved.retainAll(proves(part, known));
                    }
                    return proved;
                case '[':
                    proved.addAll(proves(node.parts.get(0), known));
                    proved.addAll(proves(node.parts.get(1), both(known, proved)));
                    proved.retainAll(proves(node.parts.get(2), known));
                    return proved;
                default:
                    for (Node part : node.parts) {
                        proves(part, known);
                    }
                    return proved;
            }
        }

        private static TreeSet<Integer> both(TreeSet<Integer> one, TreeSet<Integer> other) {
            TreeSet<Integer> all = new TreeSet<>(one);
            all.addAll(other);
            return all;
        }
    }

    /** Takes byte after byte; what is open is a pile of frames, one for each { ( [. */
    static final class Reading {
        private static final char NUMBER = 'N', TRUTH = 'T';

        /** What is open in one { ( or [: the rows in one another that the next byte may end. */
        private static final class Frame {
            final char open;
            final int place;
            int part = 0;
            char secondType;
            int rowStart, andStart, comparisonStart, sumStart;
            boolean afterOr, afterAnd, afterPlus;
            char sign, leftType, sumType;
            final ArrayDeque<Integer> nots = new ArrayDeque<>();

            Frame(char open, int place) {
                this.open = open;
                this.place = place;
                beginRow(place + 1);
            }

            void beginRow(int start) {
                rowStart = start;
                afterOr = false;
                beginAnd(start);
            }

            void beginAnd(int start) {
                andStart = start;
                afterAnd = false;
                beginComparison(start);
            }

            void beginComparison(int start) {
                comparisonStart = start;
                sign = ' ';
                beginSum(start);
            }

            void beginSum(int start) {
                sumStart = start;
                afterPlus = false;
            }
        }

        private final String text;
        private final ArrayDeque<Frame> frames = new ArrayDeque<>();
        private String state = "sign";
        private int scopes = 0, atoms = 0, atomStart = 0, refusal = 0;
        private char atomSign;

        Reading(String text) {
            this.text = text;
        }

        int refusal() {
            for (int place = 0; place < text.length() && refusal == 0; place++) {
                take(text.charAt(place), place);
            }
            return refusal != 0 || state.equals("done") ? refusal : -10 - text.length();
        }

        private void take(char sign, int place) {
            switch (state) {
                case "sign": go(sign == '+' || sign == '-', place, "scope"); break;
                case "scope": scope(sign, place); break;
                case "holder": scopes++; go(isDigit(sign), place, scopes == 3 ? "conditions" : "scope"); break;
                case "conditions": go("?!;".indexOf(sign) >= 0, place, sign == ';' ? "done" : "brace"); break;
                case "brace":
                    frames.push(new Frame('{', place));
                    go(sign == '{', place, "term");
                    break;
                case "term": term(sign, place); break;
                case "digit":
                    go(isDigit(sign), place, "behind");
                    if (refusal == 0) {
                        termEnds(atomSign == 'm' ? NUMBER : TRUTH, atomStart);
                    }
                    break;
                case "behind": behind(sign, place); break;
                default: byteWrong(place);
            }
        }

        private void scope(char sign, int place) {
            if (sign == '@' && scopes != 1) {
                state = "holder";
                return;
            }
            scopes++;
            go(sign == '*' || isDigit(sign), place, scopes == 3 ? "conditions" : "scope");
        }

        private int depth() {
            int depth = frames.size() - 1;
            for (Frame frame : frames) {
                depth += frame.nots.size();
            }
            return depth;
        }

        private void term(char sign, int place) {
            if ("!([".indexOf(sign) >= 0) {
                if (depth() == 6) {
                    byteWrong(place);
                } else if (sign == '!') {
                    frames.peek().nots.push(place);
                } else {
                    frames.push(new Frame(sign, place));
                }
                return;
            }
            if ("0123456789TFnbcgfhmol".indexOf(sign) < 0 || atoms == 12) {
                byteWrong(place);
                return;
            }
            atoms++;
            if ("gfhm".indexOf(sign) >= 0) {
                atomSign = sign;
                atomStart = place;
                state = "digit";
                return;
            }
            state = "behind";
            termEnds("TFbco".indexOf(sign) >= 0 ? TRUTH : NUMBER, place);
        }

        private void termEnds(char type, int start) {
            Frame frame = frames.peek();
            while (!frame.nots.isEmpty()) {
                want(type == TRUTH, start);
                start = frame.nots.pop();
                type = TRUTH;
            }
            if (frame.afterPlus) {
                want(type == NUMBER, start);
            }
            frame.sumType = type;
        }

        private void behind(char sign, int place) {
            Frame frame = frames.peek();
            if (sign == '+' || sign == '-') {
                want(frame.sumType == NUMBER, frame.sumStart);
                frame.afterPlus = true;
                state = "term";
                return;
            }
            if ("<=#".indexOf(sign) >= 0 && frame.sign == ' ') {
                want(sign != '<' || frame.sumType == NUMBER, frame.sumStart);
                frame.sign = sign;
                frame.leftType = frame.sumType;
                frame.beginSum(place + 1);
                state = "term";
                return;
            }
            want(frame.sign == ' ' || frame.sumType == frame.leftType, frame.sumStart);
            char type = frame.sign == ' ' ? frame.sumType : TRUTH;
            want(!frame.afterAnd && sign != '&' || type == TRUTH, frame.comparisonStart);
            if (sign == '&') {
                frame.afterAnd = true;
                frame.beginComparison(place + 1);
                state = "term";
                return;
            }
            want(!frame.afterOr && sign != '|' || type == TRUTH, frame.andStart);
            if (sign == '|') {
                frame.afterOr = true;
                frame.beginAnd(place + 1);
                state = "term";
                return;
            }
            rowEnds(frame, type, sign, place);
        }

        private void rowEnds(Frame frame, char type, char sign, int place) {
            if (frame.open == '{' || frame.open == '[' && frame.part == 0) {
                want(type == TRUTH, frame.rowStart);
            }
            if (frame.open == '[' && frame.part == 2) {
                want(type == frame.secondType, frame.rowStart);
            }
            if (frame.open == '[' && frame.part < 2) {
                go(sign == ':', place, "term");
                frame.part++;
                frame.secondType = type;
                frame.beginRow(place + 1);
                return;
            }
            char close = frame.open == '{' ? '}' : frame.open == '(' ? ')' : ']';
            go(sign == close, place, frame.open == '{' ? "conditions" : "behind");
            if (refusal == 0) {
                frames.pop();
                if (frame.open != '{') {
                    termEnds(type, frame.place);
                }
            }
        }

        private static boolean isDigit(char sign) {
            return sign >= '0' && sign <= '3';
        }

        private void go(boolean good, int place, String next) {
            if (!good) {
                byteWrong(place);
            }
            state = next;
        }

        private void want(boolean good, int start) {
            if (!good && refusal == 0) {
                refusal = -1000 - start;
            }
        }

        private void byteWrong(int place) {
            if (refusal == 0) {
                refusal = -10 - place;
            }
        }
    }
}
