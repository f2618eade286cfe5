/** Promise 9, and what reading is refused for: places count from 0. */
public final class ReadingTest {
    private static final Check check = new Check();
    private static final String TWELVE = "b&b&b&b&b&b&b&b&b&b&b&b";

    public static void main(String[] args) {
        heads();
        missingBytes();
        bytesThatMayNotStand();
        limits();
        leftParts();
        termsBehindSigns();
        partsThatEnd();
        endedBeforeTheByte();
        choices();
        accepted();
        sets();
        check.end();
    }

    private static void heads() {
        refused("", -10);
        refused("*", -10);
        refused("?", -10);
        refused(" +***;", -10);
        refused("+4**;", -11);
        refused("+a**;", -11);
        refused("+@*", -12);
        refused("+@4**;", -12);
        refused("+@@1**;", -12);
        refused("+*@1*;", -12);
        refused("-3@3;", -12);
        refused("+*4*;", -12);
        refused("+**4;", -13);
        refused("+**@4;", -14);
        refused("+**@*;", -14);
        refused("+***;;", -15);
        refused("+***; ", -15);
        refused("+*** ;", -14);
        refused("+***+", -14);
        refused("+***{b};", -14);
        refused("+***?b;", -15);
        refused("+***?{b}b", -18);
        refused("+***?{b}{c};", -18);
        refused("+@3*@0?{b};?", -21);
    }

    private static void missingBytes() {
        String whole = "-@1*@2?{(g0|!f1)&[h2:m2:0]+1<9}!{n#l};";
        for (int n = 0; n < whole.length(); n++) {
            refused(whole.substring(0, n), -10 - n);
        }
        taken(whole);
        refused("+***?{1", -17);
        refused("+***?{T=1", -19);
        refused("+***?{b&1", -19);
        refused("+***?{b|1", -19);
        refused("+***?{1<T", -19);
        refused("+***?{[1", -18);
        refused("+***?{[b:1:T", -22);
        refused("+***?{1+g", -19);
        refused("+***?{(1)", -19);
        refused("+***?{!", -17);
        refused("+***?{!g", -18);
    }

    private static void bytesThatMayNotStand() {
        refused("+***?{};", -16);
        refused("+***?{-1<2};", -16);
        refused("+***?{+1<2};", -16);
        refused("+***?{b&};", -18);
        refused("+***?{b|};", -18);
        refused("+***?{b||c};", -18);
        refused("+***?{1<};", -18);
        refused("+***?{1==1};", -18);
        refused("+***?{1+};", -18);
        refused("+***?{1+-1=1};", -18);
        refused("+***?{!};", -17);
        refused("+***?{()};", -17);
        refused("+***?{[]};", -17);
        refused("+***?{[:b:b]};", -17);
        refused("+***?{[b]};", -18);
        refused("+***?{[b)};", -18);
        refused("+***?{[b:b]};", -20);
        refused("+***?{[b::b]};", -19);
        refused("+***?{[b:b:]};", -21);
        refused("+***?{[b:b:b:b]};", -22);
        refused("+***?{(b};", -18);
        refused("+***?{(b]};", -18);
        refused("+***?{b)};", -17);
        refused("+***?{b]};", -17);
        refused("+***?{b:c};", -17);
        refused("+***?{b;", -17);
        refused("+***?{b{", -17);
        refused("+***?{bc};", -17);
        refused("+***?{12=1};", -1006);
        refused("+***?{1=12};", -19);
        refused("+***?{b!c};", -17);
        refused("+***?{b(c)};", -17);
        refused("+***?{g4};", -17);
        refused("+***?{f9};", -17);
        refused("+***?{h};", -17);
        refused("+***?{m/=1};", -17);
        refused("+***?{m:=1};", -17);
        refused("+***?{g01};", -18);
        refused("+***?{t};", -16);
        refused("+***?{N=1};", -16);
        refused("+***?{:};", -16);
        refused("+***?{/};", -16);
        refused("+***?{1<2<3};", -19);
        refused("+***?{1=2=T};", -19);
        refused("+***?{b=c=T};", -19);
        refused("+***?{b#c<1};", -19);
        refused("+***?{T=F#1=1};", -19);
        refused("+***?{b&1<2#b};", -21);
        refused("+***?{ b};", -16);
        refused("+***?{b };", -17);
    }

    private static void limits() {
        taken("+***?{" + TWELVE + "};");
        refused("+***?{" + TWELVE + "&b};", -10 - 30);
        refused("+***?{" + TWELVE + "&m0};", -10 - 30);
        refused("+***?{" + TWELVE + "&)};", -10 - 30);
        taken("+***?{b&b&b&b}?{b&b&b&b}!{b&b&b&b};");
        refused("+***?{b&b&b&b}?{b&b&b&b}!{b&b&b&b}?{b};", -10 - 36);
        refused("+***?{b&b&b&b}?{b&b&b&b}!{b&b&b&b}?{!1};", -10 - 37);
        refused("+***?{" + TWELVE + "&(", -10 - 31);
        taken("+***?{1+1+1+1+1+1+1+1+1+1+1=1};");
        refused("+***?{1+1+1+1+1+1+1+1+1+1+1+1=1};", -40);
        taken("+***?{!!!!!!b};");
        refused("+***?{!!!!!!!b};", -22);
        taken("+***?{((((((b))))))};");
        refused("+***?{(((((((b)))))))};", -22);
        taken("+***?{((((((1+2))))))=3};");
        refused("+***?{((((((1+(2)))))))=3};", -10 - 14);
        refused("+***?{((((((b&!c))))))};", -10 - 14);
        taken("+***?{[T:[T:[T:[T:[T:T:F]:F]:F]:F]:F]};");
        taken("+***?{[T:[T:[T:[T:[T:(T):F]:F]:F]:F]:F]};");
        refused("+***?{[T:[T:[T:[T:[T:((T)):F]:F]:F]:F]:F]};", -10 - 22);
        refused("+***?{!([!([(", -22);
        refused("+***?{!([!([!", -22);
        refused("+***?{!([!([[", -22);
        taken("+***?{!([!([b:b:b]):b:b])};");
        taken("+***?{!!!!!!b&!!!!!!b|((((((b))))))};");
        taken("+***?{!!!!!!b}?{!!!!!!c};");
        taken("+***?{(((b)))&(((b)))};");
        refused("+***?{[b:!!!!!b:!!!!!!b]};", -10 - 21);
        taken("+***?{(!!!!!b)=!!!!!!c};");
    }

    private static void leftParts() {
        refused("+***?{T+1=1};", -1006);
        refused("+***?{T-1=1};", -1006);
        refused("+***?{T<1};", -1006);
        refused("+***?{1&b};", -1006);
        refused("+***?{1|b};", -1006);
        refused("+***?{T+", -1006);
        refused("+***?{T-", -1006);
        refused("+***?{T<", -1006);
        refused("+***?{1&", -1006);
        refused("+***?{1|", -1006);
        refused("+***?{T=", -18);
        refused("+***?{1#", -18);
        refused("+***?{1+2&", -1006);
        refused("+***?{1+2|", -1006);
        refused("+***?{b&n|", -1008);
        refused("+***?{b|n&", -1008);
        refused("+***?{b|c|n+1&", -1010);
        refused("+***?{(1)&b};", -1006);
        refused("+***?{(b)<1};", -1006);
        refused("+***?{!b<1};", -1006);
        refused("+***?{[b:1:2]&b};", -1006);
        refused("+***?{[b:c:c]+1=1};", -1006);
        refused("+***?{1<T+1};", -1008);
        refused("+***?{T=T+1};", -1008);
        refused("+***?{1<(T)-1};", -1008);
        refused("+***?{T+)", -1006);
    }

    private static void termsBehindSigns() {
        refused("+***?{1+T", -1008);
        refused("+***?{1-T", -1008);
        refused("+***?{1+g1", -1008);
        refused("+***?{1+2-T=1};", -1010);
        refused("+***?{!1", -1007);
        refused("+***?{!m0", -1007);
        refused("+***?{!!1", -1008);
        refused("+***?{!(1)", -1007);
        refused("+***?{!(1", -19);
        refused("+***?{![b:1:2]", -1007);
        refused("+***?{1+!T", -1008);
        refused("+***?{1+!2", -1009);
        refused("+***?{1+(b|c)", -1008);
        refused("+***?{1+(b|2)", -1011);
        refused("+***?{1+[b:c:c]", -1008);
        refused("+***?{!n=1};", -1007);
        refused("+***?{!n<1};", -1007);
    }

    private static void partsThatEnd() {
        refused("+***?{1};", -1006);
        refused("+***!{1};", -1006);
        refused("+***?{1}", -1006);
        refused("+***?{b}?{n};", -1010);
        refused("+***?{n+1-2};", -1006);
        refused("+***?{(1)};", -1006);
        refused("+***?{((n+1))};", -1006);
        refused("+***?{[b:1:2]};", -1006);
        refused("+***?{1<T};", -1008);
        refused("+***?{1=T};", -1008);
        refused("+***?{1#T};", -1008);
        refused("+***?{T=1};", -1008);
        refused("+***?{T#1+2};", -1008);
        refused("+***?{T#1}", -1008);
        refused("+***?{b&1};", -1008);
        refused("+***?{b&1+2};", -1008);
        refused("+***?{b|1};", -1008);
        refused("+***?{b|1+2|c};", -1008);
        refused("+***?{b&n&c};", -1008);
        refused("+***?{b&c&n};", -1010);
        refused("+***?{b|c|n};", -1010);
        refused("+***?{b|c&n};", -1010);
        refused("+***?{b&(n)|c};", -1008);
        refused("+***?{b&1=T|c};", -1010);
        refused("+***?{(b&1)};", -1009);
        refused("+***?{9-n-l=o};", -1012);
    }

    private static void endedBeforeTheByte() {
        refused("+***?{1;", -1006);
        refused("+***?{1)", -1006);
        refused("+***?{1]", -1006);
        refused("+***?{1:", -1006);
        refused("+***?{1b", -1006);
        refused("+***?{1 ", -1006);
        refused("+***?{1!", -1006);
        refused("+***?{b&1b", -1008);
        refused("+***?{b|1)", -1008);
        refused("+***?{1<T<3};", -1008);
        refused("+***?{1=T=T};", -1008);
        refused("+***?{T#1#2};", -1008);
        refused("+***?{1=1T};", -19);
        refused("+***?{(1}", -18);
        refused("+***?{(b&1}", -1009);
        refused("+***?{(1=T]", -1009);
        refused("+***?{" + TWELVE.substring(2) + "&1b};", -1000 - 28);
    }

    private static void choices() {
        refused("+***?{[1:b:b]};", -1007);
        refused("+***?{[1]};", -1007);
        refused("+***?{[1)};", -1007);
        refused("+***?{[n+1:", -1007);
        refused("+***?{[b:1:b]};", -1011);
        refused("+***?{[b:b:1]};", -1011);
        refused("+***?{[b:b:1:", -1011);
        refused("+***?{[b:b:1}", -1011);
        refused("+***?{[b:1:1}", -22);
        refused("+***?{[b:1:1+1<2]};", -1011);
        refused("+***?{[b:1)};", -20);
        refused("+***?{[b:1+T:", -1011);
        refused("+***?{[b:c&1:", -1011);
        refused("+***?{[b:1:c|2]};", -1013);
        refused("+***?{[b|2:1:1]};", -1009);
        refused("+***?{[n<4:n:T]=1};", -1013);
        refused("+***?{[n<4:n:l]+1};", -1006);
        taken("+***?{[n<4:n:l]+1=l};");
        taken("+***?{[b:c:1<2]};");
        taken("+***?{[[b:c:o]:[T:F:T]:1=[b:2:3]]};");
    }

    private static void accepted() {
        taken("+***;");
        taken("-012;");
        taken("+@3*@3;");
        taken("+***?{T}!{F}?{b}!{c};");
        taken("-0*@1!{0=9};");
        taken("+***?{(T=F)#(1=1)};");
        taken("+***?{!b=c};");
        taken("+***?{n-9<0-5};");
        taken("+***?{m0=m1-m2+m3};");
        taken("+***?{g0&g3|f0&f3|h0&h3};");
        taken("+***?{l<5&o|n=7};");
    }

    private static void sets() {
        PermitSets x = new PermitSets();
        Check.write(x, "+***?{1};");
        int[] wrong = {-1, 2, 3, Integer.MIN_VALUE, Integer.MAX_VALUE};
        for (int set : wrong) {
            check.same("BAD before what reading is refused for", x.add(set), PermitSets.BAD);
        }
        for (int set = 0; set < 2; set++) {
            for (int i = 0; i < 8; i++) {
                check.same("a refused policy takes no number", Check.add(x, set, "+***?{b"), -17);
                check.same("add", Check.add(x, set, "+***;"), i);
            }
            check.same("add a ninth", x.add(set), PermitSets.FULL);
            check.same("refused before FULL", Check.add(x, set, "+***?{1};"), -1006);
            check.same("refused before FULL", Check.add(x, set, "+***"), -14);
            check.same("size", x.size(set), 8);
            check.same("the eighth is as it was", x.policy(set, 7, 3), 2048);
        }
        check.same("drop", x.drop(0, 3), 7);
        check.same("room again", Check.add(x, 0, "-***;"), 7);
        check.same("full again", x.add(0), PermitSets.FULL);
    }

    private static void refused(String text, int due) {
        PermitSets x = new PermitSets();
        check.same("add of " + text, Check.add(x, 0, text), due);
        check.same("size after " + text, x.size(0), 0);
    }

    private static void taken(String text) {
        PermitSets x = new PermitSets();
        check.same("add of " + text, Check.add(x, 1, text), 0);
        check.same("size after " + text, x.size(1), 1);
    }
}
