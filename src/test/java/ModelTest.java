import java.util.Random;

/** Long runs of calls, the same ones in every run of the test, answered by the class and by the model. */
public final class ModelTest {
    private static final Check check = new Check();
    private static final String BYTES = "+-*@0123456789?!{}()[]:|&<=#TFnbcgfhmol; x";
    private final Random random;
    private PermitSets real;
    private Model model;
    private String last = "";
    private int atoms;
    private boolean marksAlone;
    private int told = 0;

    private ModelTest(long seed) {
        random = new Random(seed);
    }

    public static void main(String[] args) {
        int seeds = args.length > 0 ? Integer.parseInt(args[0]) : 40;
        for (int seed = 0; seed < seeds; seed++) {
            ModelTest test = new ModelTest(seed);
            test.texts(3000);
            test.calls(500);
        }
        check.end();
    }

    /** Many texts, of which only the answer of add is looked at, and the policy if there is one. */
    private void texts(int count) {
        for (int i = 0; i < count; i++) {
            if (i % 20 == 0) {
                fresh();
            }
            write(text());
            int number = both("add(0)", real.add(0), model.add(0));
            if (number >= 0) {
                both("policy(0, i, 0)", real.policy(0, number, 0), model.policy(0, number, 0));
                both("policy(0, i, 1)", real.policy(0, number, 1), model.policy(0, number, 1));
                both("policy(0, i, 2)", real.policy(0, number, 2), model.policy(0, number, 2));
                both("drop", real.drop(0, 0), model.drop(0, 0));
            }
        }
    }

    private void calls(int count) {
        fresh();
        for (int i = 0; i < count; i++) {
            call();
        }
    }

    private void fresh() {
        real = new PermitSets();
        model = new Model();
    }

    private void call() {
        int a = number(4);
        int b = number(4);
        int c = number(4);
        int set = number(2);
        switch (random.nextInt(26)) {
            case 0: case 1: case 2: truth("join", real.join(a, b, c), model.join(a, b, c)); break;
            case 3: truth("leave", real.leave(a, b, c), model.leave(a, b, c)); break;
            case 4: case 5: case 6:
                int value = number(8);
                truth("mark", real.mark(a, b, value), model.mark(a, b, value));
                break;
            case 7: case 8:
                int level = number(8);
                truth("thing", real.thing(a, level, c), model.thing(a, level, c));
                break;
            case 9: truth("isIn", real.isIn(a, b, c), model.isIn(a, b, c)); break;
            case 10: both("put", real.put(1L << a + 60, b), model.put(1L << a + 60, b)); break;
            case 11: both("wipe", real.wipe(), model.wipe()); break;
            case 12: case 13: case 14: case 15: case 16:
                write(text());
                both("add", real.add(set), model.add(set));
                break;
            case 17: both("drop", real.drop(set, b), model.drop(set, b)); break;
            case 18: both("size", real.size(set), model.size(set)); break;
            case 19: case 20:
                int i = number(8);
                int what = number(5);
                both("policy", real.policy(set, i, what), model.policy(set, i, what));
                break;
            case 21: case 22:
                int request = number(2048);
                both("ask", real.ask(set, request, a), model.ask(set, request, a));
                break;
            case 23: both("allows", real.allows(set, a), model.allows(set, a)); break;
            case 24: both("compare", real.compare(a), model.compare(a)); break;
            default: both("needless", real.needless(set, b), model.needless(set, b));
        }
    }

    /** A number from 0 up to below a limit, now and then one beside these. */
    private int number(int limit) {
        if (random.nextInt(20) == 0) {
            return random.nextBoolean() ? -1 : limit;
        }
        return random.nextInt(limit);
    }

    private void write(String text) {
        real.wipe();
        model.wipe();
        for (int from = 0; from < text.length(); from += 8) {
            int n = Math.min(8, text.length() - from);
            long bytes = 0;
            for (int i = n - 1; i >= 0; i--) {
                bytes = bytes << 8 | text.charAt(from + i);
            }
            both("put", real.put(bytes, n), model.put(bytes, n));
        }
        last = text;
    }

    /** A policy, mostly a good one; else one with some bytes changed, or with types as they come. */
    private String text() {
        boolean typed = random.nextInt(4) > 0;
        marksAlone = random.nextInt(3) == 0;
        atoms = 12 + (random.nextInt(10) == 0 ? 2 : 0);
        StringBuilder text = new StringBuilder(random.nextInt(3) == 0 ? "-" : "+");
        text.append(scope(true)).append(scope(false)).append(scope(true));
        for (int i = random.nextInt(4); i > 0; i--) {
            text.append(random.nextInt(3) == 0 ? "!{" : "?{").append(row(random.nextInt(5), 't', typed)).append('}');
        }
        text.append(';');
        for (int i = random.nextInt(3) == 0 ? random.nextInt(4) : 0; i > 0; i--) {
            change(text);
        }
        return text.length() > 160 ? text.substring(0, 160) : text.toString();
    }

    private void change(StringBuilder text) {
        int at = random.nextInt(text.length() + 1);
        char sign = BYTES.charAt(random.nextInt(BYTES.length()));
        switch (random.nextInt(4)) {
            case 0: text.insert(at, sign); break;
            case 1: text.setLength(at); break;
            case 2:
                if (at < text.length()) {
                    text.deleteCharAt(at);
                }
                break;
            default:
                if (at < text.length()) {
                    text.setCharAt(at, sign);
                }
        }
    }

    private String scope(boolean holders) {
        int kind = random.nextInt(holders ? 5 : 4);
        String digit = String.valueOf(random.nextInt(4));
        return kind < 3 ? "*" : kind == 3 ? digit : "@" + digit;
    }

    private String row(int depth, char type, boolean typed) {
        if (!typed && random.nextInt(4) == 0) {
            type = random.nextBoolean() ? 't' : 'n';
        }
        if (type == 'n') {
            return sum(depth, typed);
        }
        StringBuilder row = new StringBuilder(comparison(depth, typed));
        while (random.nextInt(3) == 0 && atoms > 0) {
            row.append(random.nextBoolean() ? '&' : '|').append(comparison(depth, typed));
        }
        return row.toString();
    }

    private String comparison(int depth, boolean typed) {
        if (!typed && random.nextInt(6) == 0) {
            return sum(depth, false) + "<=#".charAt(random.nextInt(3)) + term(depth, 't', false);
        }
        switch (random.nextInt(4)) {
            case 0: return sum(depth, typed) + "<=#".charAt(random.nextInt(3)) + sum(depth, typed);
            case 1: return term(depth, 't', typed) + "=#".charAt(random.nextInt(2)) + term(depth, 't', typed);
            default: return term(depth, 't', typed);
        }
    }

    private String sum(int depth, boolean typed) {
        StringBuilder sum = new StringBuilder(term(depth, 'n', typed));
        while (random.nextInt(3) == 0 && atoms > 0) {
            sum.append("+-".charAt(random.nextInt(2))).append(term(depth, 'n', typed));
        }
        return sum.toString();
    }

    private String term(int depth, char type, boolean typed) {
        int kind = depth <= 0 || atoms < 3 ? 9 : random.nextInt(10);
        if (kind == 0 && type == 't') {
            return "!" + term(depth - 1, 't', typed);
        }
        if (kind == 1) {
            return "(" + row(depth - 1, type, typed) + ")";
        }
        if (kind == 2 || kind == 3) {
            return "[" + row(depth - 1, 't', typed) + ":" + row(depth - 1, type, typed) + ":"
                    + row(depth - 1, type, typed) + "]";
        }
        atoms--;
        return atom(!typed && random.nextInt(8) == 0 ? 'n' : type);
    }

    private String atom(char type) {
        if (marksAlone && random.nextInt(5) > 0) {
            return (type == 't' ? "h" : "m") + random.nextInt(2);
        }
        char sign = (type == 't' ? "TFbcghhhfo" : "0123456789nmmmmmlll").charAt(random.nextInt(type == 't' ? 10 : 19));
        return "gfhm".indexOf(sign) < 0 ? String.valueOf(sign) : "" + sign + random.nextInt(4);
    }

    private void truth(String call, boolean got, boolean due) {
        both(call, got ? 1 : 0, due ? 1 : 0);
    }

    private int both(String call, int got, int due) {
        if (got != due && told < 5) {
            told++;
            System.out.println("with the text " + last);
        }
        check.same(call, got, due);
        return due;
    }
}
