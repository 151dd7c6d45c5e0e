/** Boundary cases of "3. People": who there is, states, calling, cursors, quotas, days, and what ends being IDLE. */
public final class PeopleEdgesTest {
    private static final int NONE = -1;
    private static final int END = 9;
    private static final int MAX = Integer.MAX_VALUE;
    private static final int MIN = Integer.MIN_VALUE;

    public static void main(String[] args) {
        nobody();
        everybody();
        states();
        inviteBounds();
        callByRank();
        callBySeed();
        callGroupsChanged();
        notFitting();
        typed();
        options();
        lastOption();
        cursorShort();
        cursorLong();
        keptWhateverBecomes();
        quotaLimits();
        quotasFull();
        quotasLate();
        quotaByRecord();
        days();
        idleEnds();
        idleGoesOn();
        idleAfterwards();
        reminded();
        remindedAll();
        turned();
        Check.end("PeopleEdgesTest");
    }

    /** PEOPLE are 0 to 7: each call about somebody refuses others, ahead of all else. */
    private static void nobody() {
        Askhouse house = Check.pages(1);
        house.question(0, 3, 0, 4);
        Check.begin(house, 8);
        for (int k : new int[] {MIN, -2, -1, 8, 9, MAX}) {
            Check.refused("invite", Check.INDEX, house, () -> house.invite(k, -1, 100));
            Check.refused("answer", Check.INDEX, house, () -> house.answer(k, 9, 9, -1));
            Check.refused("type", Check.INDEX, house, () -> house.type(k, 0, 1000, 6));
            Check.refused("wipe", Check.INDEX, house, () -> house.wipe(k, 0, NONE));
            Check.refused("go", Check.INDEX, house, () -> house.go(k));
            Check.refused("back", Check.INDEX, house, () -> house.back(k));
            Check.refused("send", Check.INDEX, house, () -> house.send(k));
            Check.refused("ofPerson", Check.INDEX, house, () -> house.ofPerson(k, -1));
            Check.refused("stands", Check.INDEX, house, () -> house.stands(k, 0, NONE));
            Check.refused("seen", Check.INDEX, house, () -> house.seen(k));
            Check.refused("choices", Check.INDEX, house, () -> house.choices(k, 0));
            Check.refused("record", Check.INDEX, house, () -> house.record(k));
            Check.refused("weight", Check.INDEX, house, () -> house.weight(k));
        }
    }

    private static void everybody() {
        Askhouse house = Check.pages(1);
        house.question(0, 0, 2, 0);
        for (int k = 0; k < 8; k++) {
            Check.same("new", house.ofPerson(k, 0), 0);
            Check.same("invited", house.invite(k, 0, 99), k + 1);
        }
        for (int k = 0; k < 8; k++) {
            Check.same("called", house.call(), k);
        }
        Check.same("nobody is left", house.call(), NONE);
        Check.sound("all have begun", house);
        for (int k = 0; k < 8; k++) {
            house.answer(k, 0, NONE, 1);
            house.go(k);
            Check.same("sent", house.send(k), k + 1);
            Check.same("record", house.record(k), "g0 0:b");
        }
        Check.same("how many", house.count(5), 8);
        Check.sound("all have sent", house);
    }

    /** Each of the five states against each call that asks for another one; two have begun, one of them is in the end. */
    private static void states() {
        Askhouse house = Check.pages(1);
        house.question(0, 3, 0, 4);
        house.quota(house.is(0, 0, 1), 1);
        Check.sendWith(house, 4, 1);
        Check.same("turned away", Check.sendWith(house, 5, 1), -2);
        for (int k : new int[] {2, 3}) {
            house.invite(k, 0, 3);
            house.call();
            house.answer(k, 0, NONE, 2);
        }
        house.go(3);
        house.invite(1, 0, 3);
        int[] states = {0, 1, 2, 2, 3, 4};
        String[] seen = {"", "", "p0 q0=2", "end", "", ""};
        for (int k = 0; k < states.length; k++) {
            int who = k;
            boolean isBegun = states[k] == 2;
            Check.same("state", house.ofPerson(k, 0), states[k]);
            Check.same("seen", house.seen(k), seen[k]);
            Check.same("record", house.record(k), k == 4 ? "g0 0:1" : "");
            Check.same("stands", house.stands(k, 0, NONE), isBegun ? 2 : k == 4 ? 1 : NONE);
            Check.same("where", house.ofPerson(k, 1), k == 2 ? 0 : k == 3 ? END : NONE);
            Check.same("group", house.ofPerson(k, 2), k < 2 ? NONE : 0);
            Check.same("seed", house.ofPerson(k, 3), k == 0 ? NONE : k < 4 ? 3 : 0);
            Check.same("how many stand", house.ofPerson(k, 6), isBegun || k == 4 ? 1 : 0);
            Check.same("how many are kept", house.ofPerson(k, 7), k < 2 ? 0 : 1);
            Check.same("steps", house.ofPerson(k, 8), k == 3 ? 1 : 0);
            if (k != 0) {
                Check.refused("invite", Check.STATE, house, () -> house.invite(who, 0, 0));
            }
            if (!isBegun) {
                Check.refused("answer", Check.STATE, house, () -> house.answer(who, 0, NONE, 0));
                Check.refused("answer that does not fit", Check.STATE, house, () -> house.answer(who, 0, NONE, 99));
                Check.refused("type", Check.STATE, house, () -> house.type(who, 0, 0, 0));
                Check.refused("type nothing", Check.STATE, house, () -> house.type(who, 0, 0, 5));
                Check.refused("wipe", Check.STATE, house, () -> house.wipe(who, 0, NONE));
            }
            if (k != 2) {
                Check.refused("go", Check.STATE, house, () -> house.go(who));
            }
            if (k != 3) {
                Check.refused("back", Check.STATE, house, () -> house.back(who));
                Check.refused("send", Check.STATE, house, () -> house.send(who));
            }
            if (k != 4) {
                Check.refused("weight", Check.STATE, house, () -> house.weight(who));
            }
        }
        Check.same("reminded are those who have begun", house.remind(0), 4 + 8);
        Check.same("called is who is invited", house.call() * 10 + house.call(), 9);
        Check.sound("states", house);
        // What each state lets be done.
        Check.same("invite", house.invite(0, 0, 0), 1);
        Check.same("back", house.back(3), 0);
        Check.same("wipe", house.wipe(3, 0, NONE), 0);
        Check.same("type", house.type(3, 0, 4, 0), 1);
        Check.same("answer", house.answer(2, 0, NONE, 0), 1);
        Check.same("go", house.go(2), END);
        Check.same("send", house.send(2), 2);
        Check.same("weight", house.weight(2), "1");
    }

    private static void inviteBounds() {
        for (int[] right : new int[][] {{0, 0}, {9, 99}, {0, 99}, {9, 0}}) {
            Askhouse house = new Askhouse();
            Check.same("invite", house.invite(0, right[0], right[1]), 1);
            Check.same("seed", house.ofPerson(0, 3), right[1]);
        }
        Askhouse house = new Askhouse();
        for (int[] wrong : new int[][] {{-1, 0}, {10, 0}, {0, -1}, {0, 100}, {MIN, 0}, {MAX, 0}, {0, MIN}, {0, MAX}}) {
            Check.refused("invite", Check.ARGUMENT, house, () -> house.invite(0, wrong[0], wrong[1]));
        }
        house.invite(0, 0, 0);
        Check.refused("the bounds before the state", Check.ARGUMENT, house, () -> house.invite(0, 0, 100));
        Check.refused("the state", Check.STATE, house, () -> house.invite(0, 9, 99));
        Check.same("nobody else", house.invite(1, 9, 99), 2);
    }

    private static void callByRank() {
        Askhouse house = new Askhouse();
        int[] ranks = {3, 9, 0, 9, 5, 3, 9, 0};
        for (int k = 7; k >= 0; k--) {
            house.invite(k, ranks[k], 0);
        }
        for (int due : new int[] {1, 3, 6, 4, 0, 5, 2, 7}) {
            Check.same("by rank, then by number", house.call(), due);
        }
        Check.same("nobody", house.call(), NONE);
        Check.same("and nobody else has begun", house.ofPerson(7, 0), 2);
        // Who is invited later with a greater rank is called ahead of those who wait.
        Askhouse later = new Askhouse();
        later.invite(0, 1, 0);
        later.invite(5, 2, 0);
        Check.same("the greater one", later.call(), 5);
        later.invite(7, 9, 0);
        Check.same("the greatest one", later.call(), 7);
        later.invite(1, 1, 0);
        Check.same("the smallest number", later.call(), 0);
        Check.same("then", later.call(), 1);
    }

    /** SEED MOD how many groups have as few: 1, 2 or 3 of them. */
    private static void callBySeed() {
        for (int seed = 0; seed < 100; seed++) {
            for (int groups = 1; groups <= 3; groups++) {
                Askhouse house = new Askhouse();
                house.groups(groups);
                house.invite(0, 0, seed);
                house.call();
                int first = house.ofPerson(0, 2);
                Check.same("seed " + seed + " of " + groups, first, seed - seed / groups * groups);
                if (groups == 3) {
                    int[][] others = {{1, 2}, {0, 2}, {0, 1}};
                    house.invite(1, 0, 99 - seed);
                    house.call();
                    Check.same("of two", house.ofPerson(1, 2), others[first][seed % 2 == 0 ? 1 : 0]);
                    house.invite(2, 0, seed);
                    house.call();
                    Check.same("of one", house.ofPerson(2, 2), 3 - first - house.ofPerson(1, 2));
                    house.invite(3, 0, seed);
                    house.call();
                    Check.same("of three again", house.ofPerson(3, 2), first);
                }
            }
        }
    }

    private static int drawn(Askhouse house, int person, int seed) {
        house.invite(person, 0, seed);
        house.call();
        return house.ofPerson(person, 2);
    }

    private static void callGroupsChanged() {
        Askhouse house = new Askhouse();
        house.groups(3);
        Check.same("of three", drawn(house, 0, 2), 2);
        house.groups(2);
        Check.same("of two, both empty", drawn(house, 1, 3), 1);
        Check.same("the empty one", drawn(house, 2, 3), 0);
        house.groups(1);
        Check.same("the only one", drawn(house, 3, 99), 0);
        Check.same("who was drawn elsewhere keeps it", house.ofPerson(0, 2) * 10 + house.ofPerson(1, 2), 21);
        house.groups(3);
        Check.same("one in 1, one in 2, two in 0", drawn(house, 4, 3), 2);
        Check.same("one in 1 alone", drawn(house, 5, 2), 1);
        Check.same("two in each", drawn(house, 6, 98), 2);
        Check.same("two in 0, two in 1", drawn(house, 7, 98), 0);
        Check.sound("groups", house);
    }

    /** -9, and nothing is changed: neither what was said before, nor where he is, nor how long he is IDLE. */
    private static void notFitting() {
        Askhouse house = Check.pages(2);
        house.question(0, 1, 3, 2);
        house.question(0, 5, 0, 0);
        house.question(0, 4, 0, 0);
        house.question(0, 3, -5, -1);
        Check.begin(house, 1);
        house.answer(0, 0, NONE, 7);
        house.answer(0, 1, NONE, 229);
        house.answer(0, 2, NONE, 85);
        house.answer(0, 3, NONE, 4);
        house.go(0);
        house.pass(2);
        String before = Check.all(house);
        int[][] wrong = {{0, 4}, {0, 8}, {0, -1}, {1, 230}, {1, 0}, {1, MAX}, {2, 84}, {2, 256}, {2, MIN}, {3, 5}, {3, -1}};
        for (int[] each : wrong) {
            Check.same("does not fit", house.answer(0, each[0], NONE, each[1]), -9);
            Check.same("nothing changed", Check.all(house), before);
        }
        for (int[] each : new int[][] {{-6, 0}, {0, 0}, {-1, 1}, {-1, 2}, {-1, 3}, {-1, 4}, {-1, 5}, {999, 0}, {-999, 0}}) {
            Check.same("is no number, or not A to B", house.type(0, 3, each[0], each[1]), -9);
            Check.same("nothing changed", Check.all(house), before);
        }
        Check.same("IDLE", house.ofPerson(0, 5), 2);
        Check.same("one that fits", house.type(0, 3, -1, 0), 4);
        Check.same("no more", house.ofPerson(0, 5), 0);
    }

    /** Each form of a number from below A to above B, by what Integer.parseInt reads of it. */
    private static void typed() {
        int[][] bounds = {{-50, -41}, {-4, 5}, {0, 1}, {50, 59}};
        for (int[] bound : bounds) {
            Askhouse house = Check.pages(1);
            house.question(0, 3, bound[0], bound[1]);
            Check.begin(house, 1);
            for (int value = bound[0] - 2; value <= bound[1] + 2; value++) {
                String[] texts = {"" + value, "+" + value, "0" + value, value + " ", value + "x", ""};
                for (int form = 0; form < 6; form++) {
                    boolean isNumber;
                    try {
                        isNumber = Integer.parseInt(texts[form]) == value && value >= bound[0] && value <= bound[1];
                    } catch (NumberFormatException e) {
                        isNumber = false;
                    }
                    String what = "typed \"" + texts[form] + "\" for " + bound[0] + " to " + bound[1];
                    Check.same(what, house.type(0, 0, value, form), isNumber ? 1 : -9);
                    if (isNumber) {
                        Check.same(what, house.stands(0, 0, NONE), value - bound[0]);
                    }
                }
            }
            for (int form = 0; form < 6; form++) {
                Check.same("the greatest", house.type(0, 0, 999, form), -9);
                Check.same("the smallest", house.type(0, 0, -999, form), -9);
            }
        }
    }

    /** An OPTION that there is not is not asked, and nothing is kept with it. */
    private static void options() {
        Askhouse house = Check.pages(2);
        house.question(0, 1, 4, 0);
        house.question(1, 0, 2, 0);
        house.question(1, 0, 2, 0);
        house.loop(1, 0, 4);
        Check.begin(house, 1);
        house.answer(0, 0, NONE, 15);
        house.go(0);
        for (int option = 0; option < 4; option++) {
            house.answer(0, 1, option, 1);
            house.answer(0, 2, option, 0);
        }
        for (int option : new int[] {MIN, -6, -2, -1, 4, 5, 9, MAX}) {
            Check.refused("answer with option " + option, Check.STATE, house, () -> house.answer(0, 1, option, 0));
            Check.refused("wipe with option " + option, Check.STATE, house, () -> house.wipe(0, 1, option));
            Check.same("stands with option " + option, house.stands(0, 1, option), NONE);
        }
        for (int option = 0; option < 4; option++) {
            Check.same("stands", house.stands(0, 1, option) * 10 + house.stands(0, 2, option), 10);
            Check.same("wiped", house.wipe(0, 1, option), 8 - option);
            int wiped = option;
            Check.refused("wiped already", Check.STATE, house, () -> house.wipe(0, 1, wiped));
        }
    }

    /** The last question with the last option that there can be. */
    private static void lastOption() {
        Askhouse house = Check.pages(2);
        house.question(0, 1, 4, 0);
        for (int k = 1; k < 5; k++) {
            house.question(0, 5, 0, 0);
            house.show(k, house.inGroup(2));
        }
        house.question(1, 0, 3, 0);
        house.loop(1, 0, 4);
        Check.begin(house, 1);
        house.answer(0, 0, NONE, 12);
        house.go(0);
        Check.same("asked", house.seen(0), "p1 q5.2=? q5.3=?");
        Check.same("the first one", house.answer(0, 5, 2, 1), 2);
        Check.same("the last one is missing", house.go(0), -7);
        Check.same("the last one", house.answer(0, 5, 3, 2), 3);
        Check.same("seen", house.seen(0), "p1 q5.2=b q5.3=c");
        Check.same("wiped", house.wipe(0, 5, 3) * 10 + house.ofPerson(0, 7), 22);
        house.answer(0, 5, 3, 0);
        Check.same("it stands", house.stands(0, 5, 3) * 10 + house.ofPerson(0, 6), 3);
        house.go(0);
        house.send(0);
        Check.same("record", house.record(0), "g0 0:cd 5.2:b 5.3:a");
        Check.same("in the record", house.stands(0, 5, 3) * 10 + house.ofPerson(0, 6), 3);
        Check.sound("the last option", house);
    }

    /** CURSOR 0, and a CURSOR with more steps than the WALK has any more. */
    private static void cursorShort() {
        Askhouse house = Check.pages(4);
        for (int page = 0; page < 4; page++) {
            house.question(page, 0, 2, 0);
        }
        house.is(1, 0, 0);
        house.jump(0, 0, 3);
        Check.begin(house, 1);
        Check.refused("no step back", Check.STATE, house, () -> house.back(0));
        for (int page = 0; page < 3; page++) {
            house.answer(0, page, NONE, 1);
            house.go(0);
        }
        Check.same("three steps", house.ofPerson(0, 8) * 10 + house.ofPerson(0, 1), 33);
        Check.same("wiped", house.wipe(0, 1, NONE), 1);
        Check.same("on page 1, by one step", house.seen(0) + house.ofPerson(0, 8), "p1 q1=?1");
        Check.same("missing", house.go(0), -3);
        Check.same("the cursor is where it was", house.answer(0, 1, NONE, 0), 3);
        Check.same("on page 3", house.seen(0) + house.ofPerson(0, 8), "p3 q3=?3");
        Check.same("wiped", house.wipe(0, 1, NONE), 1);
        Check.same("back by one from there", house.back(0), 0);
        Check.refused("no step back", Check.STATE, house, () -> house.back(0));
        Check.same("on by one", house.go(0), 1);
        Check.same("answered", house.answer(0, 1, NONE, 1), 2);
        Check.same("by one step still", house.ofPerson(0, 8), 1);
        Check.same("what was said of page 2 is kept", house.go(0), 2);
        Check.same("and stands", house.seen(0), "p2 q2=b");
        // A shorter way to the end: fewer steps than the cursor tells.
        house.go(0);
        house.answer(0, 3, NONE, 0);
        Check.same("to the end", house.go(0), END);
        Check.same("four steps", house.ofPerson(0, 8), 4);
        house.dropJump(0, 1);
        house.dropJump(0, 0);
        house.jump(0, NONE, END);
        Check.same("in the end by one step", house.ofPerson(0, 8) * 10 + house.ofPerson(0, 1), 19);
        Check.refused("no further", Check.STATE, house, () -> house.go(0));
        Check.same("back by one", house.back(0), 0);
        Check.same("on again", house.go(0), END);
        Check.sound("cursor", house);
        Check.same("sent", house.send(0), 1);
        Check.same("just what stands", house.record(0), "g0 0:b");
    }

    private static void cursorLong() {
        Askhouse house = new Askhouse();
        house.page();
        house.page();
        house.question(0, 0, 2, 0);
        house.jump(0, NONE, 1);
        house.jump(1, NONE, 0);
        Check.begin(house, 1);
        house.answer(0, 0, NONE, 0);
        for (int k = 1; k <= 20; k++) {
            Check.same("on", house.go(0), k % 2);
        }
        Check.refused("CURSOR 20", Check.STATE, house, () -> house.go(0));
        Check.same("wiped", house.wipe(0, 0, NONE), 0);
        Check.same("no step any more", house.ofPerson(0, 8), 0);
        Check.refused("no step back", Check.STATE, house, () -> house.back(0));
        Check.same("missing", house.go(0), -2);
        house.answer(0, 0, NONE, 1);
        Check.same("twenty again", house.ofPerson(0, 8), 20);
        Check.same("back to 19", house.back(0) * 100 + house.ofPerson(0, 8), 119);
        for (int k = 18; k >= 0; k--) {
            Check.same("back", house.back(0), k % 2);
            Check.same("steps", house.ofPerson(0, 8), k);
        }
        Check.refused("CURSOR 0", Check.STATE, house, () -> house.back(0));
        Check.sound("cursor", house);
    }

    /** Answers are kept, whatever stands, and whatever becomes of the form. */
    private static void keptWhateverBecomes() {
        Askhouse house = Check.pages(2);
        house.question(0, 1, 2, 0);
        house.question(1, 0, 2, 0);
        house.question(1, 0, 2, 0);
        house.is(0, 0, 3);
        Check.begin(house, 1);
        house.answer(0, 0, NONE, 2);
        house.go(0);
        house.answer(0, 1, NONE, 1);
        house.answer(0, 2, NONE, 0);
        int[] stands = {3, 2, 1, 1, 1, 3};
        for (int k = 0; k < 6; k++) {
            switch (k) {
                case 1: house.show(2, 0); break;
                case 2: house.loop(1, 0, 4); break;
                case 3: house.check(0, 0); break;
                case 4: house.loop(1, NONE, 0); break;
                case 5: house.answer(0, 0, NONE, 3); break;
                default: break;
            }
            Check.same("kept " + k, house.ofPerson(0, 7), 3);
            Check.same("stand " + k, house.ofPerson(0, 6), stands[k]);
        }
        Check.sound("kept", house);
    }

    /** A quota of each limit: just so many are counted, the next one is turned away. */
    private static void quotaLimits() {
        for (int limit = 1; limit <= 8; limit++) {
            Askhouse house = Check.pages(1);
            Check.same("quota", house.quota(house.inGroup(0), limit), 0);
            for (int k = 0; k < 8; k++) {
                Check.same("limit " + limit + ", person " + k, Check.sendWith(house, k), k < limit ? k + 1 : -2);
                Check.same("counted", house.count(10), Math.min(k + 1, limit));
                Check.same("sent and turned away", house.count(5) * 10 + house.count(6),
                    Math.min(k + 1, limit) * 10 + Math.max(0, k + 1 - limit));
            }
            Check.sound("limit " + limit, house);
        }
        Askhouse house = Check.pages(1);
        house.inGroup(0);
        for (int limit : new int[] {MIN, -1, 0, 9, 10, MAX}) {
            Check.refused("limit " + limit, Check.ARGUMENT, house, () -> house.quota(0, limit));
        }
    }

    /** Several that are full and so: the first one tells; who is turned away is counted in none. */
    private static void quotasFull() {
        Askhouse house = Check.pages(1);
        house.question(0, 1, 4, 0);
        for (int k = 0; k < 4; k++) {
            house.is(0, 4, k);
            house.quota(k, k == 3 ? 2 : 1);
        }
        Check.same("in all four", Check.sendWith(house, 0, 15), 1);
        counted(house, 1, 1, 1, 1);
        Check.same("the first of three", Check.sendWith(house, 1, 15), -2);
        Check.same("the second one", Check.sendWith(house, 2, 14), -3);
        Check.same("the third one", Check.sendWith(house, 3, 12), -4);
        counted(house, 1, 1, 1, 1);
        Check.same("there is room in the last one", Check.sendWith(house, 4, 8), 2);
        counted(house, 1, 1, 1, 2);
        Check.same("no more", Check.sendWith(house, 5, 8), -5);
        Check.same("the last one, though another is full, too", Check.sendWith(house, 6, 12), -4);
        Check.same("in none", Check.sendWith(house, 7, 0), 3);
        counted(house, 1, 1, 1, 2);
        Check.same("turned away", house.count(6), 5);
        Check.same("no record", house.record(1) + house.stands(1, 0, NONE) + house.ofPerson(1, 6), "-10");
        Check.same("kept", house.ofPerson(1, 7), 1);
        Check.sound("full", house);
    }

    private static void counted(Askhouse house, int... due) {
        for (int k = 0; k < due.length; k++) {
            Check.same("counted in " + k, house.count(10 + k), due[k]);
        }
    }

    /** Those who sent before a quota was made are not counted in it. */
    private static void quotasLate() {
        Askhouse house = Check.pages(1);
        house.inGroup(0);
        Check.sendWith(house, 0);
        Check.sendWith(house, 1);
        house.quota(0, 1);
        counted(house, 0, 0, 0, 0);
        Check.same("the first one that counts", Check.sendWith(house, 2), 3);
        counted(house, 1, 0, 0, 0);
        Check.same("full", Check.sendWith(house, 3), -2);
        house.quota(0, 2);
        Check.same("full still, and not counted in the new one", Check.sendWith(house, 4), -2);
        counted(house, 1, 0, 0, 0);
        Check.sound("late", house);
    }

    /** By what stands as it is sent, and by the group in which he was drawn; what becomes of the form does not matter. */
    private static void quotaByRecord() {
        Askhouse house = Check.pages(1);
        house.groups(2);
        house.question(0, 0, 2, 0);
        house.question(0, 0, 2, 0);
        int isShown = house.is(0, 0, 1);
        house.show(1, isShown);
        int said = house.is(1, 0, 1);
        house.quota(house.not(said), 8);
        house.quota(said, 8);
        house.quota(house.inGroup(1), 8);
        Check.begin(house, 1);
        house.answer(0, 0, NONE, 1);
        house.answer(0, 1, NONE, 1);
        house.answer(0, 0, NONE, 0);
        house.go(0);
        Check.same("sent", house.send(0), 1);
        counted(house, 1, 0, 0, 0);
        house.show(1, NONE);
        counted(house, 1, 0, 0, 0);
        house.invite(1, 0, 0);
        house.call();
        Check.same("group", house.ofPerson(1, 2), 1);
        house.groups(1);
        house.answer(1, 0, NONE, 0);
        house.answer(1, 1, NONE, 1);
        house.go(1);
        Check.same("sent", house.send(1), 2);
        counted(house, 1, 1, 1, 0);
        Check.sound("counted", house);
    }

    private static void days() {
        Askhouse house = new Askhouse();
        for (int days : new int[] {MIN, -30, -1, 0, 31, 32, MAX}) {
            Check.refused("pass " + days, Check.ARGUMENT, house, () -> house.pass(days));
        }
        for (int days = 1; days <= 30; days++) {
            Check.same("pass", house.pass(days), days * (days + 1) / 2);
        }
        for (int k = 1; k <= 17; k++) {
            Check.same("pass", house.pass(30), 465 + 30 * k);
        }
        Check.same("pass", house.pass(20), 995);
        for (int days = 6; days <= 30; days += 8) {
            int beyond = days;
            Check.refused("beyond 1000", Check.STATE, house, () -> house.pass(beyond));
        }
        Check.same("999", house.pass(4), 999);
        Check.refused("1001", Check.STATE, house, () -> house.pass(2));
        Check.same("1000", house.pass(1), 1000);
        for (int days : new int[] {1, 30}) {
            Check.refused("beyond 1000", Check.STATE, house, () -> house.pass(days));
        }
        for (int days : new int[] {MIN, 0, 31, MAX}) {
            Check.refused("the days before the day", Check.ARGUMENT, house, () -> house.pass(days));
        }
        Check.begin(house, 1);
        Check.same("not IDLE yet", house.ofPerson(0, 5), 0);
        Check.sound("day 1000", house);
    }

    private static Askhouse busy() {
        Askhouse house = Check.pages(2);
        house.question(0, 3, 0, 4);
        house.question(0, 0, 2, 0);
        Check.begin(house, 1);
        return house;
    }

    /** Each call that ends being IDLE. */
    private static void idleEnds() {
        Askhouse house = busy();
        house.pass(1);
        Check.same("since called", house.ofPerson(0, 5), 1);
        house.answer(0, 1, NONE, 1);
        Check.same("answered", house.ofPerson(0, 5), 0);
        house.pass(2);
        house.answer(0, 1, NONE, 1);
        Check.same("the same once more", house.ofPerson(0, 5), 0);
        house.pass(3);
        house.type(0, 0, 4, 1);
        Check.same("typed", house.ofPerson(0, 5), 0);
        house.pass(4);
        house.go(0);
        Check.same("went on", house.ofPerson(0, 5), 0);
        house.pass(5);
        house.back(0);
        Check.same("went back to page 0", house.ofPerson(0, 5), 0);
        house.pass(6);
        house.wipe(0, 0, NONE);
        Check.same("wiped", house.ofPerson(0, 5), 0);
        house.pass(7);
        Check.same("7 days", house.ofPerson(0, 5), 7);
        house.invite(1, 0, 0);
        Check.same("not called yet", house.ofPerson(1, 5), 0);
        house.pass(8);
        Check.same("not called yet", house.ofPerson(1, 5), 0);
        house.call();
        Check.same("called", house.ofPerson(1, 5), 0);
        house.pass(9);
        Check.same("since called", house.ofPerson(1, 5), 9);
        Check.same("the other one", house.ofPerson(0, 5), 24);
        // On to page 0, whose number is not below 0.
        Askhouse ring = new Askhouse();
        ring.page();
        ring.jump(0, NONE, 0);
        Check.begin(ring, 1);
        ring.pass(1);
        Check.same("to page 0", ring.go(0) + ring.ofPerson(0, 5), 0);
    }

    /** Each call that does not. */
    private static void idleGoesOn() {
        Askhouse house = busy();
        house.pass(10);
        house.answer(0, 0, NONE, 5);
        house.type(0, 0, 5, 0);
        house.type(0, 0, 1, 3);
        idle(house, "does not fit");
        house.go(0);
        idle(house, "missing");
        Check.refused("back", Check.STATE, house, () -> house.back(0));
        Check.refused("send", Check.STATE, house, () -> house.send(0));
        Check.refused("wipe", Check.STATE, house, () -> house.wipe(0, 0, NONE));
        Check.refused("answer", Check.STATE, house, () -> house.answer(0, 0, 0, 0));
        Check.refused("invite", Check.STATE, house, () -> house.invite(0, 0, 0));
        Check.refused("type", Check.ARGUMENT, house, () -> house.type(0, 1, 0, 0));
        idle(house, "refused");
        house.remind(0);
        house.knock();
        house.seen(0);
        house.stands(0, 0, NONE);
        house.choices(0, 1);
        house.record(0);
        idle(house, "looked at");
        house.page();
        house.question(2, 0, 2, 0);
        house.is(1, 0, 1);
        house.inGroup(0);
        house.join(0, 1, true);
        house.not(0);
        house.show(1, NONE);
        house.check(0, 0);
        house.quota(0, 1);
        house.place(0, 1);
        house.turn(1, true);
        house.loop(2, NONE, 0);
        house.groups(2);
        house.rim(1, 0, 9);
        house.weigh(1);
        house.least(2);
        idle(house, "the form, tables");
        house.invite(1, 9, 9);
        house.call();
        house.answer(1, 1, NONE, 1);
        house.type(1, 0, 1, 0);
        house.go(1);
        house.back(1);
        house.wipe(1, 0, NONE);
        idle(house, "what others do");
        Check.same("nobody to call", house.call(), NONE);
        idle(house, "nobody called");
        house.answer(0, 0, NONE, 0);
        house.answer(0, 1, NONE, 0);
        house.pass(10);
        Check.same("a check", house.go(0), -20);
        idle(house, "held up by a check");
        house.answer(0, 1, NONE, 1);
        house.dropJump(0, 0);
        house.pass(10);
        Check.same("no jump", house.go(0), -40);
        idle(house, "no jump");
        Check.sound("idle", house);
    }

    private static void idle(Askhouse house, String what) {
        Check.same("IDLE: " + what, house.ofPerson(0, 5), 10);
    }

    /** Who has sent, or was turned away, is IDLE since what he did before that. */
    private static void idleAfterwards() {
        Askhouse house = Check.pages(1);
        house.quota(house.inGroup(0), 1);
        Check.begin(house, 2);
        house.go(0);
        house.pass(2);
        house.go(1);
        house.pass(3);
        Check.same("sent", house.send(0), 1);
        Check.same("turned away", house.send(1), -2);
        Check.same("IDLE", house.ofPerson(0, 5) * 10 + house.ofPerson(1, 5), 53);
        house.pass(1);
        Check.same("IDLE", house.ofPerson(0, 5) * 10 + house.ofPerson(1, 5), 64);
        Check.same("reminded is neither", house.remind(0), 0);
        Check.sound("afterwards", house);
    }

    private static void reminded() {
        Askhouse house = busy();
        for (int days : new int[] {MIN, -1, 31, 32, MAX}) {
            Check.refused("remind " + days, Check.ARGUMENT, house, () -> house.remind(days));
        }
        Check.same("not IDLE for a day", house.remind(1) + house.ofPerson(0, 4), 0);
        Check.same("at once", house.remind(0) * 10 + house.ofPerson(0, 4), 11);
        house.pass(30);
        Check.same("for 30 days", house.remind(30) * 10 + house.ofPerson(0, 4), 12);
        Check.same("a third time", house.remind(30) * 10 + house.ofPerson(0, 4), 2);
        house.answer(0, 0, NONE, 0);
        house.pass(30);
        Check.same("nor after he did something", house.remind(0) * 10 + house.ofPerson(0, 4), 2);
        Check.same("it does not end being IDLE", house.ofPerson(0, 5), 30);
        house.answer(0, 1, NONE, 0);
        house.go(0);
        house.go(0);
        house.send(0);
        Check.same("how often, after it is sent", house.ofPerson(0, 4), 2);
        Check.sound("reminded", house);
    }

    private static void remindedAll() {
        Askhouse house = Check.pages(1);
        for (int k = 0; k < 8; k++) {
            house.invite(k, 0, 0);
            house.call();
            house.pass(1);
        }
        Check.same("the longest", house.remind(8), 1);
        Check.same("the two longest", house.remind(7), 3);
        Check.same("the first one no more", house.remind(5), 14);
        Check.same("all who are left", house.remind(0), 252);
        Check.same("and again", house.remind(1), 240);
        Check.same("nobody", house.remind(0), 0);
        for (int k = 0; k < 8; k++) {
            Check.same("twice", house.ofPerson(k, 4), 2);
        }
    }

    /** Choices in the order in which he sees them, by each SEED. */
    private static void turned() {
        int[][] kinds = {{0, 2, 0}, {0, 3, 0}, {0, 4, 0}, {0, 5, 0}, {1, 2, 0}, {1, 3, 0}, {1, 4, 0}, {2, 2, 0}, {2, 3, 0}};
        for (int[] kind : kinds) {
            String all = "abcde".substring(0, kind[1]);
            for (int seed = 0; seed < 100; seed += seed < 6 ? 1 : 31) {
                Askhouse house = Check.pages(1);
                house.question(0, kind[0], kind[1], kind[2]);
                Check.refused("not invited", Check.STATE, house, () -> house.choices(0, 0));
                house.invite(0, 0, seed);
                Check.same("not turned", house.choices(0, 0), all);
                house.turn(0, true);
                int by = seed % kind[1];
                Check.same("turned", house.choices(0, 0), (all + all).substring(by, by + kind[1]));
                house.call();
                Check.same("called", house.choices(0, 0), (all + all).substring(by, by + kind[1]));
            }
        }
        // The choices of who was turned away can still be told.
        Askhouse house = Check.pages(1);
        house.question(0, 0, 3, 0);
        house.quota(house.inGroup(0), 1);
        Check.sendWith(house, 0, 0);
        Check.sendWith(house, 1, 0);
        Check.same("sent, turned away", house.choices(0, 0) + house.choices(1, 0), "abcabc");
    }
}
