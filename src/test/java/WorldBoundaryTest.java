/** The boundary cases of 'Terms' about the world and of promises 1 to 6, a sentence at a time. */
public final class WorldBoundaryTest {
    private static final Check check = new Check();
    /** Below, above, and what shifts and remainders would fold back to 0 .. 3. */
    private static final int[] BESIDE_FOUR = {-1, 4, -4, 8, 32, 256, 1 << 30, Integer.MIN_VALUE, Integer.MAX_VALUE};
    private static final int[] BESIDE_EIGHT = {8, 15, -2, -8, 32, 256, 1 << 30, Integer.MIN_VALUE, Integer.MAX_VALUE};

    public static void main(String[] args) {
        persons();
        groupsAndFolders();
        deeds();
        things();
        marksThereAre();
        levels();
        atFirstNone();
        atFirstLevelAndOwner();
        inAndSoOn();
        newObjectHasNothing();
        newObjectsAreApart();
        joinAlsoIfThere();
        joinNoSuchKind();
        joinNoSuchOne();
        joinInItself();
        joinMembersNeverInThemselves();
        joinRefusedChangesNothing();
        leaveDirectly();
        leaveNoSuch();
        markGetsNumber();
        markNoMore();
        markNoSuch();
        thingGetsBoth();
        thingNoSuch();
        isInOtherKinds();
        isInNoSuch();
        check.end();
    }

    private static void persons() {
        check.sentence("Terms: PERSONS 0 .. 3");
        for (int person = 0; person < 4; person++) {
            PermitSets x = new PermitSets();
            check.yes("join", x.join(0, person, 0));
            check.yes("mark", x.mark(person, 0, 1));
            check.yes("thing", x.thing(0, 0, person));
            check.yes("isIn", x.isIn(0, person, 0));
            check.same("a scope", applying(x, "+" + person + "**?{g0&h0};"), 512);
            check.same("an owner", applying(x, "+" + person + "*0?{o};"), 128);
        }
        PermitSets x = new PermitSets();
        for (int beside : BESIDE_FOUR) {
            check.no("join " + beside, x.join(0, beside, 0));
            check.no("mark " + beside, x.mark(beside, 0, 1));
            check.no("thing of " + beside, x.thing(0, 0, beside));
            check.no("isIn " + beside, x.isIn(0, beside, 0));
        }
        check.same("a scope", Check.add(x, 0, "+4**;"), -11);
    }

    private static void groupsAndFolders() {
        for (int kind = 0; kind < 4; kind += 2) {
            check.sentence(kind == 0 ? "Terms: GROUPS 0 .. 3" : "Terms: FOLDERS 0 .. 3");
            for (int one = 0; one < 4; one++) {
                PermitSets x = new PermitSets();
                check.yes("join", x.join(kind, 1, one));
                check.yes("isIn", x.isIn(kind, 1, one));
                check.yes("one into another", x.join(kind + 1, one, (one + 1) % 4));
                check.yes("another into one", x.join(kind + 1, (one + 3) % 4, one));
                check.same("a scope", applying(x, (kind == 0 ? "+@" + one + "**;" : "+**@" + one + ";")), 512);
                check.same("an atom", applying(x, "+***?{" + (kind == 0 ? "g" : "f") + one + "};"), 512);
            }
            PermitSets x = new PermitSets();
            for (int beside : BESIDE_FOUR) {
                check.no("join into " + beside, x.join(kind, 1, beside));
                check.no("isIn " + beside, x.isIn(kind, 1, beside));
                check.no("join 1 into " + beside, x.join(kind + 1, 1, beside));
                check.no("join into 1 of " + beside, x.join(kind + 1, beside, 1));
            }
            check.same("a scope", Check.add(x, 0, kind == 0 ? "+@4**;" : "+**@4;"), kind == 0 ? -12 : -14);
            check.same("an atom", Check.add(x, 0, "+***?{" + (kind == 0 ? "g4" : "f4") + "};"), -17);
        }
    }

    private static void deeds() {
        check.sentence("Terms: DEEDS 0 .. 3");
        PermitSets x = Check.with("+*0*;", "+*1*;", "+*2*;", "+*3*;");
        for (int deed = 0; deed < 4; deed++) {
            check.same("a scope", x.policy(0, deed, 3), 512);
            check.same("a request", x.ask(0, 128 * deed, 1), 1 << deed);
        }
        check.same("a scope", Check.add(x, 0, "+*4*;"), -12);
    }

    private static void things() {
        check.sentence("Terms: THINGS 0 .. 3");
        for (int thing = 0; thing < 4; thing++) {
            PermitSets x = new PermitSets();
            check.yes("join", x.join(2, thing, 0));
            check.yes("thing", x.thing(thing, 1, 1));
            check.yes("isIn", x.isIn(2, thing, 0));
            check.same("a scope", applying(x, "+**" + thing + "?{f0&l=1};"), 512);
        }
        PermitSets x = new PermitSets();
        for (int beside : BESIDE_FOUR) {
            check.no("join " + beside, x.join(2, beside, 0));
            check.no("thing " + beside, x.thing(beside, 1, 1));
            check.no("isIn " + beside, x.isIn(2, beside, 0));
        }
        check.same("a scope", Check.add(x, 0, "+**4;"), -13);
    }

    private static void marksThereAre() {
        check.sentence("Terms: each of the MARKS 0 .. 3, a number 0 .. 7");
        for (int mark = 0; mark < 4; mark++) {
            for (int value = 0; value < 8; value++) {
                PermitSets x = new PermitSets();
                check.yes("mark", x.mark(2, mark, value));
                check.same("has it", applying(x, "+***?{h" + mark + "};"), 512);
                check.same("its number", applying(x, "+2**?{m" + mark + "=" + value + "};"), 512);
                check.same("has no other", applying(x, "+2**?{h" + (mark + 1) % 4 + "};"), 0);
            }
        }
        PermitSets x = new PermitSets();
        for (int beside : BESIDE_FOUR) {
            check.no("mark " + beside, x.mark(2, beside, 0));
        }
        for (int beside : BESIDE_EIGHT) {
            check.no("number " + beside, x.mark(2, 0, beside));
        }
        check.same("h4", Check.add(x, 0, "+***?{h4};"), -17);
        check.same("m4", Check.add(x, 0, "+***?{m4=1};"), -17);
    }

    private static void levels() {
        check.sentence("Terms: a LEVEL 0 .. 7");
        PermitSets x = new PermitSets();
        for (int level = 0; level < 8; level++) {
            check.yes("level " + level, x.thing(3, level, 0));
            check.same("is it", applying(x, "+**3?{l=" + level + "};"), 512);
        }
        for (int beside : BESIDE_EIGHT) {
            check.no("level " + beside, x.thing(3, beside, 0));
        }
        check.no("level -1", x.thing(3, -1, 0));
        check.same("still 7", applying(x, "+**3?{l=7};"), 512);
    }

    private static void atFirstNone() {
        check.sentence("Terms: in groups, in others, in folders, in others, at first none; marks, at first none");
        PermitSets x = new PermitSets();
        for (int kind = 0; kind < 4; kind++) {
            for (int pair = 0; pair < 16; pair++) {
                check.no("leave", x.leave(kind, pair / 4, pair % 4));
                check.no("isIn", x.isIn(kind, pair / 4, pair % 4));
            }
        }
        for (int one = 0; one < 4; one++) {
            check.same("g" + one, applying(x, "+***?{g" + one + "};"), 0);
            check.same("f" + one, applying(x, "+***?{f" + one + "};"), 0);
            check.same("h" + one, applying(x, "+***?{h" + one + "};"), 0);
            check.same("m" + one, erring(x, "+***?{m" + one + "=0};"), 2048);
        }
    }

    private static void atFirstLevelAndOwner() {
        check.sentence("Terms: a LEVEL, at first 0, and an OWNER, at first 0");
        for (int thing = 0; thing < 4; thing++) {
            PermitSets x = new PermitSets();
            check.same("level", applying(x, "+**" + thing + "?{l=0};"), 512);
            check.same("owner", applying(x, "+0*" + thing + "?{o};"), 128);
            check.same("no other owner", applying(x, "+**" + thing + "?{o};"), 128);
        }
    }

    private static void inAndSoOn() {
        check.sentence("Terms: IN is what is in it, or in one that is in it, and so on");
        for (int kind = 0; kind < 4; kind += 2) {
            for (int turn = 0; turn < 4; turn++) {
                PermitSets x = new PermitSets();
                int first = turn;
                int second = (turn + 1) % 4;
                int third = (turn + 2) % 4;
                int fourth = (turn + 3) % 4;
                x.join(kind + 1, third, fourth);
                x.join(kind + 1, first, second);
                x.join(kind, 2, first);
                where(x, kind, 1 << first | 1 << second);
                x.join(kind + 1, second, third);
                where(x, kind, 15);
                x.leave(kind, 2, first);
                x.join(kind, 2, third);
                where(x, kind, 1 << third | 1 << fourth);
                x.leave(kind + 1, third, fourth);
                where(x, kind, 1 << third);
            }
        }
    }

    private static void where(PermitSets x, int kind, int due) {
        int bits = 0;
        for (int one = 0; one < 4; one++) {
            bits |= x.isIn(kind, 2, one) ? 1 << one : 0;
            check.no("another is in none", x.isIn(kind, 1, one));
        }
        check.same("where it is, of kind " + kind, bits, due);
        for (int one = 0; one < 4; one++) {
            String holder = kind == 0 ? "+@" + one + "**;" : "+**@" + one + ";";
            String atom = kind == 0 ? "+***?{g" + one + "};" : "+***?{f" + one + "};";
            check.same("the scope " + holder, applying(x, holder), (due >> one & 1) * 512);
            check.same("the atom " + atom, applying(x, atom), (due >> one & 1) * 512);
        }
    }

    private static void newObjectHasNothing() {
        check.sentence("Promise 1: no policies, the text is empty");
        PermitSets x = new PermitSets();
        for (int set = 0; set < 2; set++) {
            check.same("size", x.size(set), 0);
            check.same("policy", x.policy(set, 0, 0), PermitSets.BAD);
            check.same("drop", x.drop(set, 0), PermitSets.BAD);
            check.same("needless", x.needless(set, 0), PermitSets.BAD);
            check.same("allows", x.allows(set, 0), 0);
            check.same("add", x.add(set), -10);
        }
        check.same("compare", x.compare(2), PermitSets.NONE);
        check.same("wipe", x.wipe(), 0);
        check.same("put", x.put('+', 1), 1);
    }

    private static void newObjectsAreApart() {
        check.sentence("Promise 1: a new object is as said, whatever was done to others");
        PermitSets other = Check.with("+***;");
        other.join(0, 0, 0);
        other.mark(0, 0, 1);
        other.thing(0, 1, 1);
        check.same("as new", Fingerprint.of(new PermitSets()), Fingerprint.of(new PermitSets()));
        check.same("the other one", other.allows(0, 0), 2048);
        check.yes("the other one", other.isIn(0, 0, 0));
        PermitSets x = new PermitSets();
        check.same("size", x.size(0), 0);
        check.same("wipe", x.wipe(), 0);
        check.no("isIn", x.isIn(0, 0, 0));
        check.same("mark", applying(x, "+***?{h0};"), 0);
        check.same("level", applying(x, "+***?{l=0};"), 2048);
        check.same("owner", applying(x, "+0**?{o};"), 512);
    }

    private static void joinAlsoIfThere() {
        check.sentence("Promise 2: true, also if it is there already");
        for (int kind = 0; kind < 4; kind++) {
            PermitSets x = new PermitSets();
            for (int time = 0; time < 3; time++) {
                check.yes("join " + time, x.join(kind, 0, 3));
            }
            check.yes("leave once", x.leave(kind, 0, 3));
            check.no("it is there no more", x.leave(kind, 0, 3));
            check.yes("by way of 1", x.join(kind, 0, 1) && x.join(kind | 1, 1, 3));
            check.yes("directly as well", x.join(kind, 0, 3));
            check.yes("and directly again", x.join(kind, 0, 3));
            check.yes("directly no more", x.leave(kind, 0, 3));
            check.no("directly no more", x.leave(kind, 0, 3));
            check.same("in 3 by 1 all the same", x.isIn(kind & 2, 0, 3) ? 1 : 0, kind % 2 == 0 ? 1 : 0);
        }
    }

    private static void joinNoSuchKind() {
        check.sentence("Promise 2: false, refused, when there is no such kind");
        PermitSets x = new PermitSets();
        for (int kind = 0; kind < 4; kind++) {
            check.yes("join of kind " + kind, x.join(kind, 0, 1));
        }
        for (int kind : BESIDE_FOUR) {
            check.no("join of kind " + kind, x.join(kind, 2, 3));
        }
        for (int kind = 0; kind < 4; kind++) {
            check.no("nothing was put", x.leave(kind, 2, 3));
        }
    }

    private static void joinNoSuchOne() {
        check.sentence("Promise 2: false, refused, when there is no such one");
        for (int kind = 0; kind < 4; kind++) {
            PermitSets x = new PermitSets();
            check.yes("the last into the first", x.join(kind, 3, 0));
            check.yes("the last out of the first", x.leave(kind, 3, 0));
            check.yes("the first into the last", x.join(kind, 0, 3));
            check.yes("the first out of the last", x.leave(kind, 0, 3));
            for (int beside : BESIDE_FOUR) {
                check.no("who " + beside, x.join(kind, beside, 3));
                check.no("into " + beside, x.join(kind, 0, beside));
                check.no("both " + beside, x.join(kind, beside, beside));
            }
            check.same("as new", Fingerprint.of(x), Fingerprint.of(new PermitSets()));
        }
    }

    private static void joinInItself() {
        check.sentence("Promise 2: false, refused, when it would come to be in itself");
        for (int kind = 1; kind < 4; kind += 2) {
            PermitSets x = new PermitSets();
            for (int who = 0; who < 4; who++) {
                check.no("into itself", x.join(kind, who, who));
            }
            // All that can be had at once: each one in all those with a greater number.
            for (int pair = 0; pair < 16; pair++) {
                if (pair / 4 < pair % 4) {
                    check.yes("into a greater one", x.join(kind, pair / 4, pair % 4));
                }
            }
            for (int pair = 0; pair < 16; pair++) {
                if (pair / 4 >= pair % 4) {
                    check.no("into one that is in it", x.join(kind, pair / 4, pair % 4));
                }
            }
            // 0 stays in 3 as long as one way is left.
            x.leave(kind, 0, 3);
            x.leave(kind, 0, 2);
            x.leave(kind, 1, 3);
            check.no("3 into 0, by 1 and 2", x.join(kind, 3, 0));
            x.leave(kind, 1, 2);
            check.yes("3 into 0", x.join(kind, 3, 0));
            check.no("1 into 2, by 3 and 0", x.join(kind, 1, 2));
            check.no("1 into 3, by 0", x.join(kind, 1, 3));
        }
    }

    private static void joinMembersNeverInThemselves() {
        check.sentence("Promise 2: a person or a thing never comes to be in itself");
        for (int kind = 0; kind < 4; kind += 2) {
            PermitSets x = new PermitSets();
            for (int pair = 0; pair < 16; pair++) {
                check.yes("all into all", x.join(kind, pair / 4, pair % 4));
            }
            check.yes("0 into 1", x.join(kind + 1, 0, 1));
            check.no("1 into 0", x.join(kind + 1, 1, 0));
        }
    }

    private static void joinRefusedChangesNothing() {
        check.sentence("Promise 2: what is refused is not put");
        for (int kind = 1; kind < 4; kind += 2) {
            PermitSets x = new PermitSets();
            x.join(kind, 0, 1);
            x.join(kind, 1, 2);
            check.no("2 into 0", x.join(kind, 2, 0));
            x.join(kind - 1, 3, 2);
            check.no("not in 0 by 2", x.isIn(kind - 1, 3, 0));
            check.no("2 was never in 0", x.leave(kind, 2, 0));
            check.yes("0 in 1 as before", x.leave(kind, 0, 1));
            check.yes("2 into 0 now", x.join(kind, 2, 0));
            check.yes("in 0 by 2", x.isIn(kind - 1, 3, 0));
        }
    }

    private static void leaveDirectly() {
        check.sentence("Promise 3: out of another in which it is directly: whether it was");
        for (int kind = 0; kind < 4; kind++) {
            PermitSets x = new PermitSets();
            x.join(kind, 0, 1);
            x.join(kind | 1, 1, 2);
            x.join(kind | 1, 2, 3);
            check.no("in 2 by 1 alone", x.leave(kind, 0, 2));
            check.no("in 3 by 1 and 2 alone", x.leave(kind, 0, 3));
            check.no("the other way round", x.leave(kind, 1, 0));
            if (kind % 2 == 0) {
                check.yes("still in 3", x.isIn(kind, 0, 3));
            }
            check.yes("out of 1", x.leave(kind, 0, 1));
            check.no("out of 1 again", x.leave(kind, 0, 1));
            check.no("no more in 3", x.isIn(kind, 0, 3));
            check.yes("1 is in 2 as before", x.leave(kind | 1, 1, 2));
            check.yes("2 is in 3 as before", x.leave(kind | 1, 2, 3));
        }
    }

    private static void leaveNoSuch() {
        check.sentence("Promise 3: one that is not there was not in any");
        for (int kind = 0; kind < 4; kind++) {
            PermitSets x = new PermitSets();
            x.join(kind, 0, 3);
            x.join(kind, 3, kind % 2 == 0 ? 0 : 1);
            for (int beside : BESIDE_FOUR) {
                check.no("who " + beside, x.leave(kind, beside, 3));
                check.no("out of " + beside, x.leave(kind, 0, beside));
                check.no("kind " + beside, x.leave(beside, 0, 3));
            }
            check.yes("0 is in 3", x.leave(kind, 0, 3));
            check.yes("3 is in another", x.leave(kind, 3, kind % 2 == 0 ? 0 : 1));
        }
    }

    private static void markGetsNumber() {
        check.sentence("Promise 4: a person gets a mark's number");
        PermitSets x = new PermitSets();
        check.yes("0", x.mark(3, 3, 0));
        check.same("a mark that is 0 is there", applying(x, "+***?{h3&m3=0};"), 512);
        check.yes("7", x.mark(3, 3, 7));
        check.same("7 in the place of 0", applying(x, "+***?{h3&m3=7};"), 512);
        check.no("8", x.mark(3, 3, 8));
        check.same("7 as before", applying(x, "+***?{h3&m3=7};"), 512);
        check.yes("the same again", x.mark(3, 3, 7));
        check.same("the other persons have none", applying(x, "+***?{h3};"), 512);
        check.same("nor has it others", applying(x, "+***?{h0|h1|h2};"), 0);
    }

    private static void markNoMore() {
        check.sentence("Promise 4: with value = -1, has the mark no more");
        PermitSets x = new PermitSets();
        check.yes("one that it never had", x.mark(0, 0, -1));
        x.mark(0, 0, 5);
        x.mark(0, 1, 5);
        x.mark(1, 0, 5);
        check.yes("one that it has", x.mark(0, 0, -1));
        check.same("no more", applying(x, "+0**?{h0};"), 0);
        check.same("its number is an error", erring(x, "+0**?{m0=5};"), 512);
        check.same("its other mark stays", applying(x, "+0**?{m1=5};"), 512);
        check.same("the other person's stays", applying(x, "+1**?{m0=5};"), 512);
        check.yes("again", x.mark(0, 0, -1));
        check.no("-2", x.mark(0, 1, -2));
        check.same("-2 took nothing", applying(x, "+0**?{m1=5};"), 512);
        check.yes("a number again", x.mark(0, 0, 6));
        check.same("6 now", applying(x, "+0**?{m0=6};"), 512);
    }

    private static void markNoSuch() {
        check.sentence("Promise 4: false, refused, when there is no such person, mark or number");
        PermitSets x = new PermitSets();
        for (int value = -1; value < 8; value++) {
            check.no("person -1", x.mark(-1, 3, value));
            check.no("person 4", x.mark(4, 0, value));
            check.no("mark -1", x.mark(3, -1, value));
            check.no("mark 4", x.mark(0, 4, value));
        }
        check.no("number -2", x.mark(0, 0, -2));
        check.no("number 8", x.mark(0, 0, 8));
        check.same("as new", Fingerprint.of(x), Fingerprint.of(new PermitSets()));
    }

    private static void thingGetsBoth() {
        check.sentence("Promise 5: a thing gets a level and an owner");
        PermitSets x = new PermitSets();
        check.yes("the greatest", x.thing(3, 7, 3));
        check.same("both", applying(x, "+3*3?{l=7&o};"), 128);
        check.same("no other level", applying(x, "+***?{l=7};"), 512);
        check.same("no other owner", applying(x, "+3**?{o};"), 128);
        check.yes("the smallest", x.thing(3, 0, 0));
        check.same("both", applying(x, "+0*3?{l=0&o};"), 128);
        check.same("not person 3 any more", applying(x, "+3**?{o};"), 0);
    }

    private static void thingNoSuch() {
        check.sentence("Promise 5: false, refused, when there is no such thing, level or person");
        PermitSets x = new PermitSets();
        x.thing(1, 4, 2);
        check.no("level 8", x.thing(1, 8, 3));
        check.same("the owner stays", applying(x, "+2*1?{o};"), 128);
        check.no("level -1", x.thing(1, -1, 3));
        check.same("the owner stays", applying(x, "+2*1?{o};"), 128);
        check.no("owner 4", x.thing(1, 5, 4));
        check.same("the level stays", applying(x, "+**1?{l=4};"), 512);
        check.no("owner -1", x.thing(1, 5, -1));
        check.same("the level stays", applying(x, "+**1?{l=4};"), 512);
        check.no("thing 4", x.thing(4, 5, 3));
        check.no("thing -1", x.thing(-1, 5, 3));
        check.same("nothing has level 5", applying(x, "+***?{l=5};"), 0);
        check.same("person 3 has nothing", applying(x, "+3**?{o};"), 0);
    }

    private static void isInOtherKinds() {
        check.sentence("Promise 6: false when there is no such kind (of groups and folders it does not tell)");
        PermitSets x = new PermitSets();
        for (int kind = 0; kind < 4; kind++) {
            x.join(kind, 0, 1);
        }
        check.yes("a person", x.isIn(0, 0, 1));
        check.yes("a thing", x.isIn(2, 0, 1));
        check.no("a group", x.isIn(1, 0, 1));
        check.no("a folder", x.isIn(3, 0, 1));
        for (int kind : BESIDE_FOUR) {
            check.no("kind " + kind, x.isIn(kind, 0, 1));
        }
        PermitSets things = new PermitSets();
        things.join(2, 0, 1);
        check.no("a person, where the thing is", things.isIn(0, 0, 1));
        PermitSets persons = new PermitSets();
        persons.join(0, 0, 1);
        check.no("a thing, where the person is", persons.isIn(2, 0, 1));
    }

    private static void isInNoSuch() {
        check.sentence("Promise 6: false when there is no such one");
        PermitSets x = new PermitSets();
        for (int pair = 0; pair < 16; pair++) {
            x.join(0, pair / 4, pair % 4);
            x.join(2, pair / 4, pair % 4);
        }
        for (int kind = 0; kind < 4; kind += 2) {
            for (int one = 0; one < 4; one++) {
                check.yes("one that there is", x.isIn(kind, one, 3 - one));
            }
            for (int beside : BESIDE_FOUR) {
                check.no("who " + beside, x.isIn(kind, beside, 3));
                check.no("where " + beside, x.isIn(kind, 3, beside));
            }
        }
    }

    private static int applying(PermitSets x, String policy) {
        return asked(x, policy, 3);
    }

    private static int erring(PermitSets x, String policy) {
        return asked(x, policy, 4);
    }

    private static int asked(PermitSets x, String policy, int what) {
        int number = Check.add(x, 1, policy);
        int count = x.policy(1, number, what);
        x.drop(1, number);
        x.wipe();
        return count;
    }
}
