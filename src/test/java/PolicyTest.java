/** Promises 10 to 12, and the values of what stands in conditions. */
public final class PolicyTest {
    private static final Check check = new Check();
    private static final int[] WRONG_SETS = {-1, 2, Integer.MIN_VALUE, Integer.MAX_VALUE};

    public static void main(String[] args) {
        dropping();
        sizes();
        wrongQuestions();
        signsAndAtoms();
        scopes();
        numbers();
        truths();
        world();
        errors();
        orderOfConditions();
        changesOfTheWorld();
        check.end();
    }

    private static void dropping() {
        PermitSets x = Check.with("+0**;", "-1**;", "+0*2;", "+012;");
        check.same("drop the second", x.drop(0, 1), 3);
        check.same("the first stays", x.policy(0, 0, 3), 512);
        check.same("the third is the second", x.policy(0, 1, 3), 128);
        check.same("the fourth is the third", x.policy(0, 2, 3), 32);
        check.same("there is no fourth", x.policy(0, 3, 3), PermitSets.BAD);
        check.same("drop what is not there", x.drop(0, 3), PermitSets.BAD);
        check.same("drop -1", x.drop(0, -1), PermitSets.BAD);
        check.same("drop in an empty set", x.drop(1, 0), PermitSets.BAD);
        for (int set : WRONG_SETS) {
            check.same("drop in no such set", x.drop(set, 0), PermitSets.BAD);
        }
        check.same("add goes behind", Check.add(x, 0, "-***;"), 3);
        check.same("the new one", x.policy(0, 3, 3), 2048);
        check.same("the third is as it was", x.policy(0, 2, 3), 32);
        check.same("drop the last", x.drop(0, 3), 3);
        check.same("drop the first", x.drop(0, 0), 2);
        check.same("drop the first", x.drop(0, 0), 1);
        check.same("the last of all", x.policy(0, 0, 3), 32);
        check.same("drop it", x.drop(0, 0), 0);
        check.same("drop of an empty set", x.drop(0, 0), PermitSets.BAD);
        check.same("add", Check.add(x, 0, "+3**;"), 0);
        check.same("as new", x.policy(0, 0, 3), 512);
    }

    private static void sizes() {
        PermitSets x = new PermitSets();
        for (int i = 0; i < 8; i++) {
            check.same("size(0)", x.size(0), i);
            check.same("size(1)", x.size(1), 0);
            Check.add(x, 0, "+***;");
        }
        check.same("size(0)", x.size(0), 8);
        for (int set : WRONG_SETS) {
            check.same("size of no such set", x.size(set), PermitSets.NONE);
        }
    }

    private static void wrongQuestions() {
        PermitSets x = Check.with("+***;", "+***;");
        int[] wrong = {-1, 5, 6, Integer.MIN_VALUE, Integer.MAX_VALUE};
        for (int what : wrong) {
            check.same("policy what = " + what, x.policy(0, 1, what), PermitSets.BAD);
        }
        for (int what = -1; what < 6; what++) {
            check.same("no such policy", x.policy(0, 2, what), PermitSets.BAD);
            check.same("no such policy", x.policy(0, -1, what), PermitSets.BAD);
            check.same("no such policy", x.policy(0, 8, what), PermitSets.BAD);
            check.same("no such policy", x.policy(0, Integer.MAX_VALUE, what), PermitSets.BAD);
            check.same("none in the other set", x.policy(1, 0, what), PermitSets.BAD);
            for (int set : WRONG_SETS) {
                check.same("no such set", x.policy(set, 0, what), PermitSets.BAD);
            }
        }
    }

    private static void signsAndAtoms() {
        PermitSets x = Check.with("+***;", "-***;", "+***?{g1&f2|h3&(m3=l)}!{[b:c:o]#T};", "-***?{9=9};");
        check.same("permits", x.policy(0, 0, 0), 1);
        check.same("forbids", x.policy(0, 1, 0), 0);
        check.same("permits", x.policy(0, 2, 0), 1);
        check.same("forbids", x.policy(0, 3, 0), 0);
        check.same("no atoms", x.policy(0, 0, 1), 0);
        check.same("no atoms", x.policy(0, 1, 1), 0);
        check.same("nine atoms", x.policy(0, 2, 1), 9);
        check.same("two atoms", x.policy(0, 3, 1), 2);
    }

    private static void scopes() {
        applies("+***;", 2048);
        applies("-***;", 2048);
        applies("+2**;", 512);
        applies("+*3*;", 512);
        applies("+**1;", 512);
        applies("+213;", 32);
        applies("+@0**;", 0);
        applies("+**@0;", 0);
        PermitSets x = new PermitSets();
        for (int request = 0; request < 2048; request++) {
            if (request % 400 == 0) {
                x = Check.with("+213;", "+@1*@2;", "+@0*3;");
            }
            check.same("scopes of " + request, x.ask(0, request, 1), request / 32 == 2 * 16 + 4 + 3 ? 1 : 0);
        }
        x = Check.with("+@1*@2;", "+@0*3;", "+@0**;");
        x.join(0, 2, 1);
        x.join(0, 3, 1);
        x.join(1, 1, 0);
        x.join(2, 0, 3);
        x.join(3, 3, 2);
        check.same("in group 1 and folder 2", x.policy(0, 0, 3), 2 * 4 * 32);
        check.same("in group 0, thing 3", x.policy(0, 1, 3), 2 * 4 * 32);
        check.same("in group 0", x.policy(0, 2, 3), 1024);
        check.same("ask person 2", x.ask(0, Check.request(2, 3, 0, 1, 0, 1), 1), 5);
        check.same("ask person 1", x.ask(0, Check.request(1, 3, 0, 1, 0, 1), 1), 0);
    }

    private static void numbers() {
        applies("+***?{n<3};", 2048 * 3 / 8);
        applies("+***?{3<n};", 2048 * 4 / 8);
        applies("+***?{n=n};", 2048);
        applies("+***?{n#7};", 2048 * 7 / 8);
        applies("+***?{n=8};", 0);
        applies("+***?{n-9<0-5};", 1024);
        applies("+***?{9-3-2=4};", 2048);
        applies("+***?{9-(3-2)=8};", 2048);
        applies("+***?{9-3+2=8};", 2048);
        applies("+***?{9+9+9+9+9+9+9+9+9+9=9};", 0);
        applies("+***?{0-9-9-9-9-9-9-9-9-9-9<0};", 2048);
        applies("+***?{0-1<0};", 2048);
        applies("+***?{0-1=9};", 0);
        applies("+***?{0-1#0-1};", 0);
        applies("+***?{0-1=0-1};", 2048);
        applies("+***?{n+n=6};", 256);
        applies("+***?{[b:n:7-n]<2};", 512);
        applies("+***?{1<1};", 0);
        applies("+***?{2<1};", 0);
    }

    private static void truths() {
        applies("+***?{T};", 2048);
        applies("+***?{F};", 0);
        applies("+***!{T};", 0);
        applies("+***!{F};", 2048);
        applies("+***?{b};", 1024);
        applies("+***?{c&b};", 512);
        applies("+***?{c|b};", 1536);
        applies("+***?{c=b};", 1024);
        applies("+***?{c#b};", 1024);
        applies("+***?{!b};", 1024);
        applies("+***?{!b=c};", 1024);
        applies("+***?{!(n<3)};", 2048 * 5 / 8);
        applies("+***?{!!(n<3)};", 2048 * 3 / 8);
        applies("+***?{!(n<3)=b&!c};", 512);
        applies("+***?{(n<3)=T};", 2048 * 3 / 8);
        applies("+***?{(n<3)#T};", 2048 * 5 / 8);
        applies("+***?{o=T};", 512);
        applies("+***?{(n=n)=(1#2)};", 2048);
        applies("+***?{b=T&c=T};", 512);
        applies("+***?{!(b=T)&c};", 512);
        applies("+***?{T|T&F};", 2048);
        applies("+***?{(T|T)&F};", 0);
        applies("+***?{F&T|T};", 2048);
        applies("+***?{F&(T|T)};", 0);
        applies("+***?{b|c|n<1};", 1536 + 512 / 8);
        applies("+***?{b&c&n<1};", 512 / 8);
        applies("+***?{[b:c:n=0]};", 512 + 128);
        applies("+***?{[T:[F:T:b]:T]};", 1024);
        applies("+***?{b}!{c};", 512);
        applies("+***?{b}!{b};", 0);
        applies("+***!{b}!{c};", 512);
        applies("+***!{b|c}?{n=1};", 64);
        applies("+***?{(n<4)=(b&c)};", 1024);
        applies("+***?{o};", 512);
        applies("+***?{l=0};", 2048);
        PermitSets x = Check.with("+***?{b};", "+***?{c};", "+***?{n=5};");
        check.same("b", x.ask(0, 2, 1), 1);
        check.same("c", x.ask(0, 1, 1), 2);
        check.same("n", x.ask(0, 20, 1), 4);
        check.same("all", x.ask(0, 2047 - 8, 1), 7);
    }

    private static void world() {
        PermitSets x = Check.with("+***?{g3};", "+***?{f3};", "+***?{o};", "+***?{l=6};", "+***?{h1};",
                "+***?{h1&m1+l=9};", "+***?{h1=T};", "+***?{g3=T&f3=T};");
        x.join(0, 1, 2);
        x.join(1, 2, 3);
        x.join(2, 0, 3);
        x.join(2, 1, 0);
        x.thing(1, 6, 3);
        x.thing(2, 6, 3);
        x.mark(2, 1, 3);
        x.mark(0, 1, 0);
        int[] due = {512, 512, 512, 1024, 1024, 256, 1024, 128};
        for (int i = 0; i < due.length; i++) {
            check.same("policy " + i, x.policy(0, i, 3), due[i]);
        }
        check.same("person 2, thing 1", x.ask(0, Check.request(2, 0, 1, 0, 0, 0), 1), 8 + 16 + 32 + 64);
        check.same("person 3, thing 1", x.ask(0, Check.request(3, 0, 1, 0, 0, 0), 1), 4 + 8);
        check.same("person 1, thing 0", x.ask(0, Check.request(1, 0, 0, 0, 0, 0), 1), 1 + 2 + 128);
        check.same("person 0, thing 3", x.ask(0, Check.request(0, 0, 3, 0, 0, 0), 1), 4 + 16 + 64);
    }

    private static void errors() {
        errs("+***?{m0=1};", 0, 2048);
        errs("+***!{m0=1};", 0, 2048);
        errs("+1**?{m0=1};", 0, 512);
        errs("+@0**?{m0=1};", 0, 0);
        errs("+***?{F&m0=1};", 0, 0);
        errs("+***?{T|m0=1};", 2048, 0);
        errs("+***?{m0=1|T};", 0, 2048);
        errs("+***?{m0=1&F};", 0, 2048);
        errs("+***?{b&m0=1};", 0, 1024);
        errs("+***?{b|m0=1};", 1024, 1024);
        errs("+***?{b|c|m0=1};", 1536, 512);
        errs("+***?{b&c&m0=1};", 0, 512);
        errs("+***?{b&m0=1|T};", 1024, 1024);
        errs("+***?{[b:m0:1]=1};", 1024, 1024);
        errs("+***?{[b:1:m0]=1};", 1024, 1024);
        errs("+***?{[m0=1:T:T]};", 0, 2048);
        errs("+***?{!(m0=1)};", 0, 2048);
        errs("+***?{1+m0-m0=1};", 0, 2048);
        errs("+***?{m0=m0};", 0, 2048);
        errs("+***?{(m0=1)=(b&F)};", 0, 2048);
        errs("+***?{h0&m0=1};", 0, 0);
        PermitSets x = Check.with("+***?{m0=0};");
        x.mark(2, 0, 0);
        x.mark(3, 1, 0);
        check.same("a mark that is 0 is there", x.policy(0, 0, 3), 512);
        check.same("others err", x.policy(0, 0, 4), 1536);
    }

    private static void orderOfConditions() {
        errs("+***?{F}?{m0=1};", 0, 0);
        errs("+***!{T}?{m0=1};", 0, 0);
        errs("+***?{m0=1}?{F};", 0, 2048);
        errs("+***?{b}?{m0=1};", 0, 1024);
        errs("+***!{b}!{m0=1};", 0, 1024);
        errs("+***?{b}?{m0=1}?{c};", 0, 1024);
        errs("+***?{b}!{c}!{m0=1};", 0, 512);
    }

    private static void changesOfTheWorld() {
        PermitSets x = Check.with("+@0*@0?{h0&m0=l|o};");
        check.same("at first", x.policy(0, 0, 3), 0);
        x.join(0, 0, 0);
        check.same("still none", x.policy(0, 0, 3), 0);
        x.join(2, 1, 0);
        check.same("the owner", x.policy(0, 0, 3), 128);
        x.thing(1, 4, 3);
        check.same("not the owner", x.policy(0, 0, 3), 0);
        x.mark(0, 0, 4);
        check.same("by mark", x.policy(0, 0, 3), 128);
        x.mark(0, 0, -1);
        check.same("no more", x.policy(0, 0, 3), 0);
        x.mark(0, 0, 4);
        x.leave(0, 0, 0);
        check.same("no more in the group", x.policy(0, 0, 3), 0);
        x.join(0, 0, 1);
        x.join(1, 1, 0);
        check.same("by another group", x.policy(0, 0, 3), 128);
        x.leave(3, 0, 0);
        x.leave(2, 1, 0);
        check.same("no more in the folder", x.policy(0, 0, 3), 0);
    }

    private static void applies(String text, int due) {
        errs(text, due, 0);
    }

    private static void errs(String text, int dueApplying, int dueErring) {
        PermitSets x = Check.with(text);
        check.same("applying: " + text, x.policy(0, 0, 3), dueApplying);
        check.same("erring: " + text, x.policy(0, 0, 4), dueErring);
    }
}
