/** Promises 1 to 6: a new object, join, leave, mark, thing, isIn. */
public final class WorldTest {
    private static final Check check = new Check();
    private static final int[] WRONG = {-1, 4, Integer.MIN_VALUE, Integer.MAX_VALUE, -2, 32, 36};

    public static void main(String[] args) {
        newObject();
        joinAndLeave(0);
        joinAndLeave(2);
        chains(0);
        chains(2);
        circles(1);
        circles(3);
        nestsAreApart();
        wrongOnes();
        marks();
        things();
        refusalsChangeNothing();
        check.end();
    }

    private static void newObject() {
        PermitSets x = new PermitSets();
        for (int who = 0; who < 4; who++) {
            for (int where = 0; where < 4; where++) {
                check.no("isIn(0) of a new object", x.isIn(0, who, where));
                check.no("isIn(2) of a new object", x.isIn(2, who, where));
            }
        }
        check.same("size(0)", x.size(0), 0);
        check.same("size(1)", x.size(1), 0);
        check.same("wipe()", x.wipe(), 0);
        check.same("add(0) of no text", x.add(0), -10);
        check.same("no marks", counted("+***?{h0|h1|h2|h3};", x), 0);
        check.same("owner 0", counted("+***?{o};", x), 512);
        check.same("owner is person 0", counted("+0**?{o};", x), 512);
        check.same("level 0", counted("+***?{l=0};", x), 2048);
        check.same("no groups", counted("+***?{g0|g1|g2|g3};", x), 0);
        check.same("no folders", counted("+***?{f0|f1|f2|f3};", x), 0);
    }

    private static void joinAndLeave(int kind) {
        PermitSets x = new PermitSets();
        for (int who = 0; who < 4; who++) {
            for (int where = 0; where < 4; where++) {
                check.no("leave before join", x.leave(kind, who, where));
                check.yes("join", x.join(kind, who, where));
                check.yes("join again", x.join(kind, who, where));
                check.yes("isIn", x.isIn(kind, who, where));
                check.no("of no such kind", x.isIn(kind + 1, who, where));
                check.no("the other nest", x.isIn(2 - kind, who, where));
            }
        }
        for (int who = 0; who < 4; who++) {
            for (int where = 0; where < 4; where++) {
                check.yes("leave", x.leave(kind, who, where));
                check.no("leave again", x.leave(kind, who, where));
                check.no("isIn after leave", x.isIn(kind, who, where));
            }
        }
    }

    private static void chains(int kind) {
        PermitSets x = new PermitSets();
        check.yes("join member 2 to 3", x.join(kind, 2, 3));
        check.yes("join 1 to 0", x.join(kind + 1, 1, 0));
        check.yes("join 3 to 2", x.join(kind + 1, 3, 2));
        check.yes("join 2 to 1", x.join(kind + 1, 2, 1));
        for (int where = 0; where < 4; where++) {
            check.yes("member 2 is in all", x.isIn(kind, 2, where));
            check.no("member 3 is in none", x.isIn(kind, 3, where));
        }
        check.no("is not directly in", x.leave(kind, 2, 0));
        check.yes("is in all the same", x.isIn(kind, 2, 0));
        check.yes("a link in the middle goes", x.leave(kind + 1, 2, 1));
        check.no("no more in 0", x.isIn(kind, 2, 0));
        check.no("no more in 1", x.isIn(kind, 2, 1));
        check.yes("still in 2", x.isIn(kind, 2, 2));
        check.yes("in 0 by another way", x.join(kind + 1, 3, 0));
        check.yes("isIn 0", x.isIn(kind, 2, 0));
        check.yes("the first link goes", x.leave(kind, 2, 3));
        check.no("isIn 0", x.isIn(kind, 2, 0));
        check.no("isIn 3", x.isIn(kind, 2, 3));
    }

    private static void circles(int kind) {
        PermitSets x = new PermitSets();
        for (int one = 0; one < 4; one++) {
            check.no("into itself", x.join(kind, one, one));
            check.no("is not in itself", x.leave(kind, one, one));
        }
        check.yes("0 into 1", x.join(kind, 0, 1));
        check.yes("1 into 2", x.join(kind, 1, 2));
        check.yes("2 into 3", x.join(kind, 2, 3));
        check.no("1 into 0", x.join(kind, 1, 0));
        check.no("2 into 0", x.join(kind, 2, 0));
        check.no("3 into 0", x.join(kind, 3, 0));
        check.no("3 into 1", x.join(kind, 3, 1));
        check.yes("0 into 3, also directly", x.join(kind, 0, 3));
        check.yes("0 into 1 again", x.join(kind, 0, 1));
        check.no("refused joins left nothing", x.leave(kind, 3, 0));
        check.yes("1 out of 2", x.leave(kind, 1, 2));
        check.no("3 into 0: 0 is in 3 directly", x.join(kind, 3, 0));
        check.yes("0 out of 3", x.leave(kind, 0, 3));
        check.yes("3 into 0 now", x.join(kind, 3, 0));
        check.no("1 into 2 would close the circle", x.join(kind, 1, 2));
    }

    private static void nestsAreApart() {
        PermitSets x = new PermitSets();
        x.join(1, 0, 1);
        check.yes("folder 1 into 0 though group 0 is in group 1", x.join(3, 1, 0));
        x.join(0, 2, 0);
        x.join(2, 2, 1);
        check.yes("person in group 1", x.isIn(0, 2, 1));
        check.yes("thing in folder 0", x.isIn(2, 2, 0));
        check.no("leave of the other kind", x.leave(3, 0, 1));
        check.no("leave of the other kind", x.leave(0, 0, 1));
        check.yes("leave of this kind", x.leave(1, 0, 1));
    }

    private static void wrongOnes() {
        PermitSets x = new PermitSets();
        for (int kind = 0; kind < 4; kind++) {
            for (int wrong : WRONG) {
                check.no("join of no such one", x.join(kind, wrong, 1));
                check.no("join into no such one", x.join(kind, 1, wrong));
                check.no("leave of no such one", x.leave(kind, wrong, 1));
                check.no("leave out of no such one", x.leave(kind, 1, wrong));
                check.no("isIn of no such one", x.isIn(kind, wrong, 1));
                check.no("isIn no such one", x.isIn(kind, 1, wrong));
            }
        }
        for (int wrong : WRONG) {
            check.no("join of no such kind", x.join(wrong, 0, 1));
            check.no("leave of no such kind", x.leave(wrong, 0, 1));
            check.no("isIn of no such kind", x.isIn(wrong, 0, 1));
        }
        x.join(0, 0, 1);
        x.join(1, 0, 1);
        x.join(2, 0, 1);
        x.join(3, 0, 1);
        check.no("isIn of kind 1", x.isIn(1, 0, 1));
        check.no("isIn of kind 3", x.isIn(3, 0, 1));
    }

    private static void marks() {
        PermitSets x = new PermitSets();
        Check.add(x, 0, "+***?{h2}?{m2=7};");
        for (int person = 0; person < 4; person++) {
            for (int mark = 0; mark < 4; mark++) {
                for (int value = -1; value < 8; value++) {
                    check.yes("mark", x.mark(person, mark, value));
                    boolean applies = mark == 2 && value == 7;
                    check.same("who has mark 2 as 7", x.policy(0, 0, 3), 512 * person + (applies || mark > 2 ? 512 : 0));
                }
            }
        }
        for (int person = 0; person < 4; person++) {
            check.yes("has the mark no more", x.mark(person, 2, -1));
            check.yes("nor again", x.mark(person, 2, -1));
            check.same("who has mark 2", x.policy(0, 0, 3), 512 * (3 - person));
        }
        for (int wrong : WRONG) {
            check.no("mark of no such person", x.mark(wrong, 0, 1));
            check.no("no such mark", x.mark(0, wrong, 1));
        }
        check.no("no such number", x.mark(0, 0, 8));
        check.no("no such number", x.mark(0, 0, -2));
        check.no("no such number", x.mark(0, 0, Integer.MAX_VALUE));
        check.no("no such number", x.mark(0, 0, Integer.MIN_VALUE));
        check.no("no such person, taking away", x.mark(4, 0, -1));
    }

    private static void things() {
        PermitSets x = new PermitSets();
        Check.add(x, 0, "+***?{o};");
        Check.add(x, 0, "+**2?{l=5};");
        for (int level = 0; level < 8; level++) {
            for (int owner = 0; owner < 4; owner++) {
                check.yes("thing", x.thing(2, level, owner));
                check.same("level of thing 2", x.policy(0, 1, 3), level == 5 ? 512 : 0);
                check.same("owner of thing 2", x.ask(0, Check.request(owner, 1, 2, 3, 1, 0), 1) & 1, 1);
                check.same("not the owner", x.ask(0, Check.request((owner + 1) % 4, 1, 2, 3, 1, 0), 1) & 1, 0);
                check.same("owner of the others", x.ask(0, Check.request(0, 0, 3, 0, 0, 0), 1), 1);
            }
        }
        for (int wrong : WRONG) {
            check.no("no such thing", x.thing(wrong, 0, 0));
            check.no("no such owner", x.thing(0, 0, wrong));
        }
        check.no("no such level", x.thing(0, 8, 0));
        check.no("no such level", x.thing(0, -1, 0));
        check.no("no such level", x.thing(0, Integer.MIN_VALUE, 0));
    }

    private static void refusalsChangeNothing() {
        PermitSets x = new PermitSets();
        x.mark(1, 1, 4);
        x.thing(1, 4, 1);
        x.mark(1, 1, 8);
        x.mark(1, 1, -2);
        x.thing(1, 8, 2);
        x.thing(1, 5, 4);
        check.same("mark as it was", counted("+1**?{h1}?{m1=4};", x), 512);
        check.same("level as it was", counted("+**1?{l=4};", x), 512);
        check.same("owner as it was", counted("+1*1?{o};", x), 128);
    }

    private static int counted(String policy, PermitSets x) {
        int number = Check.add(x, 1, policy);
        int count = x.policy(1, number, 3);
        x.drop(1, number);
        x.wipe();
        return count;
    }
}
