/** Promise 12, what = 2: when a policy is safe. */
public final class SafeTest {
    private static final Check check = new Check();

    public static void main(String[] args) {
        conditions();
        ands();
        alternatives();
        choices();
        allElse();
        worldIsNotLookedAt();
        check.end();
    }

    private static void conditions() {
        safe("+***;");
        safe("+***?{h0};");
        unsafe("+***?{m0<4};");
        unsafe("+***!{m0<4};");
        safe("+***?{h0}?{m0<4};");
        safe("+***?{h0}!{m0<4};");
        unsafe("+***!{h0}?{m0<4};");
        unsafe("+***?{m0<4}?{h0};");
        unsafe("+***?{h1}?{m0<4};");
        safe("+***?{h0}?{h1}?{h2}?{h3}?{m0+m1+m2+m3<9};");
        safe("+***?{h0}!{b}?{c}?{m0<4};");
        safe("+***?{h0&h1}?{m1<m0};");
        unsafe("+***?{h0&h1}?{m1<m2};");
        unsafe("+***?{h0}?{m0<4}?{m1<4};");
        unsafe("+***?{m0<4}?{h0}?{m0<4};");
        safe("-@0*@1?{h3}?{m3=m3};");
    }

    private static void ands() {
        safe("+***?{h0&m0<4};");
        unsafe("+***?{m0<4&h0};");
        safe("+***?{h0&h1&m0<m1};");
        unsafe("+***?{h0&m0<m1&h1};");
        safe("+***?{(h0&h1)&(m1#m0)};");
        safe("+***?{(h0)&m0=1};");
        safe("+***?{b&h0&c&m0=1};");
        safe("+***!{h0&m0=1};");
        safe("+***?{h0&!(m0<4)};");
        safe("+***?{h0&(b|m0<4)};");
        safe("+***?{h0&[b:m0:1]=1};");
        safe("+***?{h0&[b:1:m0]=1};");
        safe("+***?{h0&[m0<3:b:c]};");
        safe("+***?{h0&(b&(c&m0=1))};");
        unsafe("+***?{(h0&b)|c&m0=1};");
        unsafe("+***?{!(h0)&m0=1};");
        unsafe("+***?{h0=T&m0=1};");
    }

    private static void alternatives() {
        safe("+***?{h1&m1=3|h2&m2=3};");
        unsafe("+***?{h1&m1=3|m1=3};");
        unsafe("+***?{h0|m0=1};");
        unsafe("+***?{!h0|m0=1};");
        unsafe("+***?{h0|h1}?{m0<4};");
        safe("+***?{h0&h1|h1&h0}?{m0<m1};");
        safe("+***?{h0&h1|h1}?{m1=1};");
        unsafe("+***?{h0&h1|h1}?{m0=1};");
        unsafe("+***?{h0|h0|b}?{m0=1};");
        safe("+***?{h0|h0|h0&b}?{m0=1};");
        unsafe("+***?{b|h0|h0}?{m0=1};");
        unsafe("+***?{F|h0}?{m0=1};");
        unsafe("+***?{T|h0}?{m0=1};");
        safe("+***?{(h0|b&h0)&m0=1};");
        safe("+***?{h0}?{b|m0=1};");
    }

    private static void choices() {
        safe("+***?{[h1:m1:4]=1};");
        unsafe("+***?{[h1:4:m1]=1};");
        unsafe("+***?{[!h1:4:m1]=1};");
        unsafe("+***?{[m1=1:h1:h1]};");
        unsafe("+***?{[h1:h2:F]}?{m1<m2};");
        unsafe("+***?{[h1:h2:F]}?{m1<2};");
        unsafe("+***?{h0|h1}?{[h0:m0<4:m1<4]};");
        safe("+***?{[h0:m0<9:h1]&h1};");
        unsafe("+***?{[h0:m0<9:h1]&m1=1};");
        safe("+***?{[h0:h1:h0&h1]}?{m1<8};");
        safe("+***?{[h0:h1:h0&h1]}?{m0<8};");
        safe("+***?{[h0:b:h0]}?{m0<8};");
        safe("+***?{[b:h0:h0]}?{m0<8};");
        unsafe("+***?{[b:c:h0]}?{m0<8};");
        unsafe("+***?{[b:h0:c]}?{m0<8};");
        unsafe("+***?{[b:h0:h1]}?{m0<8};");
        safe("+***?{[h0&h1:h2:h0&h2&h3]}?{m0<m2};");
        unsafe("+***?{[h0&h1:h2:h0&h2&h3]}?{m1<2};");
        unsafe("+***?{[h0&h1:h2:h0&h2&h3]}?{m3<2};");
        safe("+***?{[h0&h1:m0<m1:b]};");
        unsafe("+***?{[h0|h1:m0<4:b]};");
        safe("+***?{([h0:T:h0])&m0=1};");
    }

    private static void allElse() {
        unsafe("+***?{!(!h0)}?{m0<8};");
        unsafe("+***?{!!h0}?{m0<8};");
        unsafe("+***?{h0=T}?{m0<8};");
        unsafe("+***?{h0#F}?{m0<8};");
        unsafe("+***?{T=h0}?{m0<8};");
        unsafe("+***?{F}?{m0<8};");
        unsafe("+***?{g0}?{m0<8};");
        unsafe("+***?{f0}?{m0<8};");
        unsafe("+***?{F&m0<8};");
        unsafe("+***?{T|m0<8};");
        unsafe("+***?{h0}?{1+m1=1};");
        unsafe("+***?{h0}?{!(1-m1=1)};");
        unsafe("+***?{m0=m0}?{m0=1};");
    }

    private static void worldIsNotLookedAt() {
        PermitSets x = Check.with("+***?{m0<8};", "+0**?{h0&m0<8};");
        for (int person = 0; person < 4; person++) {
            x.mark(person, 0, 1);
        }
        check.same("unsafe, though all have the mark", x.policy(0, 0, 2), 0);
        check.same("safe", x.policy(0, 1, 2), 1);
    }

    private static void safe(String text) {
        check.same("safe: " + text, Check.with(text).policy(0, 0, 2), 1);
    }

    private static void unsafe(String text) {
        check.same("safe: " + text, Check.with(text).policy(0, 0, 2), 0);
    }
}
