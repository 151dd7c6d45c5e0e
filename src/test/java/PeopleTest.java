/** Promises 17 to 32: people, and what they see. */
public final class PeopleTest {
    private static final int NONE = -1;
    private static final int END = 9;

    public static void main(String[] args) {
        invite();
        call();
        callGroups();
        answer();
        answerFits();
        answerMany();
        type();
        wipe();
        go();
        goRound();
        goAgain();
        back();
        send();
        sendQuotas();
        noMoreThen();
        pass();
        remind();
        knock();
        ofPerson();
        idle();
        stands();
        seen();
        seenTexts();
        choices();
        record();
        cursor();
        Check.end("PeopleTest");
    }

    // promise 17
    private static void invite() {
        Askhouse house = new Askhouse();
        Check.refused("person -1", Check.INDEX, house, () -> house.invite(-1, 0, 0));
        Check.refused("person 8", Check.INDEX, house, () -> house.invite(8, 0, 0));
        Check.refused("person before rank", Check.INDEX, house, () -> house.invite(8, 10, 0));
        Check.refused("rank -1", Check.ARGUMENT, house, () -> house.invite(0, -1, 0));
        Check.refused("rank 10", Check.ARGUMENT, house, () -> house.invite(0, 10, 0));
        Check.refused("seed -1", Check.ARGUMENT, house, () -> house.invite(0, 0, -1));
        Check.refused("seed 100", Check.ARGUMENT, house, () -> house.invite(0, 0, 100));
        Check.same("invite", house.invite(0, 0, 0), 1);
        Check.same("invite", house.invite(7, 9, 99), 2);
        Check.refused("invited already", Check.STATE, house, () -> house.invite(0, 0, 0));
        Check.refused("rank before state", Check.ARGUMENT, house, () -> house.invite(0, 10, 0));
        house.call();
        Check.same("who is called does not count", house.invite(3, 1, 1), 2);
        Check.refused("called already", Check.STATE, house, () -> house.invite(7, 0, 0));
    }

    // promise 18
    private static void call() {
        Askhouse house = Check.pages(1);
        Check.same("nobody", house.call(), NONE);
        house.invite(4, 3, 0);
        house.invite(2, 7, 0);
        house.invite(5, 7, 0);
        house.invite(1, 0, 0);
        Check.same("the greatest rank, the smallest number", house.call(), 2);
        Check.same("then", house.call(), 5);
        house.invite(0, 3, 0);
        Check.same("then", house.call(), 0);
        Check.same("then", house.call(), 4);
        Check.same("then", house.call(), 1);
        Check.same("nobody is left", house.call(), NONE);
        Check.same("begun", house.ofPerson(4, 0), 2);
        Check.same("not invited", house.ofPerson(3, 0), 0);
    }

    private static void callGroups() {
        Askhouse house = new Askhouse();
        house.groups(3);
        int[] seeds = {4, 5, 9, 2, 1, 0};
        int[] groups = {1, 2, 0, 2, 1, 0};
        for (int k = 0; k < 6; k++) {
            house.invite(k, 0, seeds[k]);
            house.call();
            Check.same("group of person " + k, house.ofPerson(k, 2), groups[k]);
        }
        // Fewer groups: who is in another one keeps it; more groups: the new one has fewest.
        Askhouse other = new Askhouse();
        other.groups(2);
        other.invite(0, 0, 1);
        other.call();
        Check.same("drawn in 1", other.ofPerson(0, 2), 1);
        other.groups(1);
        other.invite(1, 0, 1);
        other.call();
        Check.same("just group 0", other.ofPerson(1, 2), 0);
        Check.same("kept", other.ofPerson(0, 2), 1);
        other.groups(3);
        other.invite(2, 0, 0);
        other.call();
        Check.same("the empty one", other.ofPerson(2, 2), 2);
        other.invite(3, 0, 7);
        other.call();
        Check.same("of three alike", other.ofPerson(3, 2), 1);
        other.invite(4, 0, 7);
        other.call();
        Check.same("of two alike", other.ofPerson(4, 2), 2);
        // Those who have sent or were turned away were called, too.
        Askhouse sent = Check.pages(1);
        sent.groups(2);
        Check.sendWith(sent, 0);
        sent.invite(1, 0, 0);
        sent.call();
        Check.same("one was in group 0", sent.ofPerson(1, 2), 1);
    }

    // promise 19
    private static void answer() {
        Askhouse house = Check.pages(2);
        house.question(0, 0, 3, 0);
        house.question(1, 0, 2, 0);
        Check.refused("person 8", Check.INDEX, house, () -> house.answer(8, 0, NONE, 0));
        Check.refused("question 2", Check.INDEX, house, () -> house.answer(0, 2, NONE, 0));
        Check.refused("question -1", Check.INDEX, house, () -> house.answer(0, -1, NONE, 0));
        Check.refused("not begun", Check.STATE, house, () -> house.answer(0, 0, NONE, 0));
        house.invite(0, 0, 0);
        Check.refused("invited", Check.STATE, house, () -> house.answer(0, 0, NONE, 0));
        house.call();
        Check.refused("option 0", Check.STATE, house, () -> house.answer(0, 0, 0, 0));
        Check.refused("option -2", Check.STATE, house, () -> house.answer(0, 0, -2, 0));
        Check.refused("option 4", Check.STATE, house, () -> house.answer(0, 0, 4, 0));
        Check.refused("not there yet", Check.STATE, house, () -> house.answer(0, 1, NONE, 0));
        Check.refused("not asked before what fits", Check.STATE, house, () -> house.answer(0, 1, NONE, 99));
        Check.same("answer", house.answer(0, 0, NONE, 2), 1);
        Check.same("what was said before is gone", house.answer(0, 0, NONE, 1), 1);
        Check.same("it stands", house.stands(0, 0, NONE), 1);
        Check.same("kept once", house.ofPerson(0, 7), 1);
        house.go(0);
        Check.same("another one", house.answer(0, 1, NONE, 0), 2);
        Check.same("an earlier page is asked, too", house.answer(0, 0, NONE, 0), 2);
        Check.same("changed", house.stands(0, 0, NONE), 0);
        String before = Check.all(house);
        Check.same("does not fit", house.answer(0, 0, NONE, 3), -9);
        Check.same("below 0", house.answer(0, 0, NONE, NONE), -9);
        Check.same("far above", house.answer(0, 0, NONE, Integer.MAX_VALUE), -9);
        Check.same("far below", house.answer(0, 0, NONE, Integer.MIN_VALUE), -9);
        Check.same("nothing changed", Check.all(house), before);
    }

    private static void answerFits() {
        // kind, a, b, codes that fit, codes that do not
        int[][][] kinds = {
            {{0, 2, 0}, {0, 1}, {2, -1}},
            {{1, 3, 2}, {3, 5, 6, 7}, {0, 1, 2, 4, 8, 11, -1}},
            {{1, 2, 0}, {0, 3}, {4}},
            {{2, 2, 0}, {0, 1}, {2}},
            {{2, 3, 0}, {0, 5}, {6}},
            {{3, -5, -1}, {0, 4}, {5, -5}},
            // 0120 in base 3 is 15: digit, letter, "-", digit: "7a-7" is 1021 in base 4, "7z-7" 1321
            {{4, 15, 0}, {73, 121}, {0, 72, 74, 77, 255, 329, 73 + 256}},
            {{4, 40, 0}, {0, 3, 255, 240}, {256, 1, 2, 128}},
            {{5, 0, 0}, {101, 131, 229, 430, 1231}, {0, 100, 132, 230, 431, 1131, 1232, 1301, 31, 99}},
            {{6, 1, 3}, {0, 2}, {3}},
            {{6, 2, 2}, {0, 3}, {4}}};
        for (int[][] kind : kinds) {
            Askhouse house = Check.pages(1);
            house.question(0, kind[0][0], kind[0][1], kind[0][2]);
            Check.begin(house, 1);
            for (int code : kind[2]) {
                Check.same("kind " + kind[0][0] + " of " + code, house.answer(0, 0, NONE, code), -9);
            }
            for (int code : kind[1]) {
                Check.same("kind " + kind[0][0] + " of " + code, house.answer(0, 0, NONE, code), 1);
                Check.same("stands", house.stands(0, 0, NONE), code);
            }
        }
        // 41 is 1112 in base 3: three letters, each "a" or "z", and a "-".
        Askhouse house = Check.pages(1);
        house.question(0, 4, 41, 0);
        Check.begin(house, 1);
        int fitting = 0;
        for (int code = 0; code < 256; code++) {
            fitting += house.answer(0, 0, NONE, code) == 1 ? 1 : 0;
        }
        Check.same("three letters and a -", fitting, 8);
    }

    private static void answerMany() {
        // What is answered may take other answers away, or bring them back.
        Askhouse house = Check.pages(3);
        house.question(0, 1, 2, 0);
        house.question(1, 0, 2, 0);
        house.question(2, 0, 2, 0);
        house.loop(1, 0, 2);
        Check.begin(house, 1);
        house.answer(0, 0, NONE, 3);
        house.go(0);
        house.answer(0, 1, 0, 0);
        house.answer(0, 1, 1, 1);
        house.go(0);
        Check.same("all stand", house.answer(0, 2, NONE, 1), 4);
        Check.same("one thing less", house.answer(0, 0, NONE, 2), 3);
        Check.same("the other thing", house.answer(0, 0, NONE, 1), 3);
        Check.same("none", house.answer(0, 0, NONE, 0), 2);
        Check.same("both again", house.answer(0, 0, NONE, 3), 4);
        Check.refused("not as on a page without a loop", Check.STATE, house, () -> house.answer(0, 1, NONE, 0));
        // The last option that there can be.
        Askhouse four = Check.pages(2);
        four.question(0, 1, 4, 0);
        four.question(1, 0, 2, 0);
        four.loop(1, 0, 4);
        Check.begin(four, 1);
        four.answer(0, 0, NONE, 8);
        four.go(0);
        Check.same("asked with option 3", four.seen(0), "p1 q1.3=?");
        Check.same("answered with option 3", four.answer(0, 1, 3, 1), 2);
        Check.same("it stands", four.stands(0, 1, 3), 1);
        Check.same("wiped", four.wipe(0, 1, 3), 1);
    }

    // promise 20
    private static void type() {
        Askhouse house = Check.pages(1);
        house.question(0, 3, -5, 4);
        house.question(0, 0, 3, 0);
        house.show(0, NONE);
        Check.refused("person 8", Check.INDEX, house, () -> house.type(8, 0, 0, 0));
        Check.refused("question 2", Check.INDEX, house, () -> house.type(0, 2, 0, 0));
        Check.refused("question before value", Check.INDEX, house, () -> house.type(0, 2, 1000, 6));
        Check.refused("value 1000", Check.ARGUMENT, house, () -> house.type(0, 0, 1000, 0));
        Check.refused("value -1000", Check.ARGUMENT, house, () -> house.type(0, 0, -1000, 0));
        Check.refused("form -1", Check.ARGUMENT, house, () -> house.type(0, 0, 0, -1));
        Check.refused("form 6", Check.ARGUMENT, house, () -> house.type(0, 0, 0, 6));
        Check.refused("kind 0", Check.ARGUMENT, house, () -> house.type(0, 1, 0, 0));
        Check.refused("not begun", Check.STATE, house, () -> house.type(0, 0, 0, 0));
        Check.begin(house, 1);
        Check.refused("kind before state", Check.ARGUMENT, house, () -> house.type(0, 1, 0, 0));
        int[][] due = {
            {0, 0, 5}, {-5, 0, 0}, {4, 0, 9}, {-6, 0, -9}, {5, 0, -9}, {999, 0, -9}, {-999, 0, -9},
            {3, 1, 8}, {0, 1, 5}, {-3, 1, -9}, {5, 1, -9},
            {2, 2, 7}, {0, 2, 5}, {-2, 2, -9}, {40, 2, -9},
            {1, 3, -9}, {1, 4, -9}, {1, 5, -9}, {-1, 3, -9}, {0, 5, -9}};
        for (int[] typed : due) {
            String before = Check.all(house);
            int told = house.type(0, 0, typed[0], typed[1]);
            Check.same("type " + typed[0] + " as " + typed[1], told, typed[2] == -9 ? -9 : 1);
            if (typed[2] == -9) {
                Check.same("nothing changed", Check.all(house), before);
            } else {
                Check.same("it stands", house.stands(0, 0, NONE), typed[2]);
            }
        }
        house.answer(0, 1, NONE, 0);
        house.is(1, 0, 1);
        house.show(0, 0);
        Check.refused("not asked", Check.STATE, house, () -> house.type(0, 0, 0, 0));
        Check.refused("not asked before what fits", Check.STATE, house, () -> house.type(0, 0, 99, 5));
        // In a loop it is asked with options alone.
        Askhouse looped = Check.pages(2);
        looped.question(0, 1, 2, 0);
        looped.question(1, 3, 0, 3);
        looped.loop(1, 0, 2);
        Check.begin(looped, 1);
        looped.answer(0, 0, NONE, 1);
        looped.go(0);
        Check.refused("with an option", Check.STATE, looped, () -> looped.type(0, 1, 1, 0));
    }

    // promise 21
    private static void wipe() {
        Askhouse house = Check.pages(2);
        house.question(0, 0, 2, 0);
        house.question(1, 0, 2, 0);
        Check.refused("person -1", Check.INDEX, house, () -> house.wipe(-1, 0, NONE));
        Check.refused("question 2", Check.INDEX, house, () -> house.wipe(0, 2, NONE));
        Check.refused("not begun", Check.STATE, house, () -> house.wipe(0, 0, NONE));
        Check.begin(house, 1);
        Check.refused("nothing kept", Check.STATE, house, () -> house.wipe(0, 0, NONE));
        house.answer(0, 0, NONE, 1);
        Check.refused("option 0", Check.STATE, house, () -> house.wipe(0, 0, 0));
        Check.refused("option 9", Check.STATE, house, () -> house.wipe(0, 0, 9));
        Check.refused("option -2", Check.STATE, house, () -> house.wipe(0, 1, -2));
        house.go(0);
        house.answer(0, 1, NONE, 1);
        Check.same("wiped, so the walk is short", house.wipe(0, 0, NONE), 0);
        Check.same("he is where it is missing", house.seen(0), "p0 q0=?");
        Check.same("the other one is kept", house.ofPerson(0, 7), 1);
        Check.same("wiped, though it does not stand", house.wipe(0, 1, NONE), 0);
        Check.refused("wiped already", Check.STATE, house, () -> house.wipe(0, 1, NONE));
        Check.same("answered again", house.answer(0, 0, NONE, 0), 1);
        Check.same("and on the way again", house.seen(0), "p1 q1=?");
        Check.same("one that stands beside others", house.answer(0, 1, NONE, 0), 2);
        Check.same("is wiped", house.wipe(0, 1, NONE), 1);
    }

    // promise 22
    private static void go() {
        Askhouse house = new Askhouse();
        house.page();
        house.page();
        house.question(0, 0, 2, 0);
        house.question(0, 0, 2, 0);
        house.is(0, 0, 1);
        house.is(1, 0, 1);
        house.check(1, 0);
        house.check(0, 0);
        house.check(0, 1);
        house.jump(0, house.join(0, 1, true), 1);
        house.jump(1, house.inGroup(0), END);
        Check.refused("person 8", Check.INDEX, house, () -> house.go(8));
        Check.refused("not begun", Check.STATE, house, () -> house.go(0));
        Check.begin(house, 1);
        Check.same("the first question", house.go(0), -2);
        house.answer(0, 0, NONE, 0);
        Check.same("the second question", house.go(0), -3);
        house.answer(0, 1, NONE, 0);
        Check.same("a check of this page", house.go(0), -21);
        house.answer(0, 0, NONE, 1);
        Check.same("another check", house.go(0), -22);
        Check.same("nothing changed", house.ofPerson(0, 8), 0);
        house.answer(0, 1, NONE, 1);
        Check.same("on", house.go(0), 1);
        house.not(3);
        house.dropJump(1, 0);
        Check.same("no jump", house.go(0), -40);
        house.jump(1, 4, 0);
        Check.same("no jump that is so", house.go(0), -40);
        house.jump(1, NONE, END);
        Check.same("to the end", house.go(0), END);
        Check.refused("in the end", Check.STATE, house, () -> house.go(0));
        Askhouse empty = new Askhouse();
        Check.begin(empty, 1);
        Check.same("without pages", empty.go(0), -40);
        Check.same("without pages", empty.seen(0), "p0");
    }

    private static void goRound() {
        Askhouse house = new Askhouse();
        house.page();
        house.page();
        house.jump(0, NONE, 1);
        house.jump(1, NONE, 0);
        Check.begin(house, 1);
        for (int k = 1; k <= 20; k++) {
            Check.same("step " + k, house.go(0), k % 2);
            Check.same("steps", house.ofPerson(0, 8), k);
        }
        Check.refused("20 steps", Check.STATE, house, () -> house.go(0));
        Check.same("back", house.back(0), 1);
        Check.same("and on once more", house.go(0), 0);
    }

    private static void goAgain() {
        // A page that is come to again is asked anew, with what stood before still looked at.
        Askhouse house = new Askhouse();
        house.page();
        house.page();
        house.question(0, 0, 3, 0);
        house.question(0, 0, 2, 0);
        house.question(1, 0, 2, 0);
        house.show(1, house.is(2, 0, 1));
        house.jump(0, house.is(1, 0, 0), END);
        house.jump(0, NONE, 1);
        house.jump(1, NONE, 0);
        Check.begin(house, 1);
        house.answer(0, 0, NONE, 0);
        Check.same("on", house.go(0), 1);
        Check.same("two stand", house.answer(0, 2, NONE, 1), 2);
        Check.same("round", house.go(0), 0);
        Check.same("more is asked there now", house.seen(0), "p0 q0=a q1=?");
        Check.same("it is missing now", house.go(0), -3);
        Check.same("three stand", house.answer(0, 1, NONE, 0), 3);
        Check.same("to the end", house.go(0), END);
        Check.same("steps", house.ofPerson(0, 8), 3);
        // A question shown by itself: what stood of it ahead of the page is looked at, not what is said then.
        Askhouse self = new Askhouse();
        self.page();
        self.question(0, 0, 2, 0);
        self.show(0, self.not(self.is(0, 0, 1)));
        self.jump(0, NONE, 0);
        Check.begin(self, 1);
        Check.same("asked", self.answer(0, 0, NONE, 1), 1);
        self.go(0);
        Check.same("not asked any more", self.seen(0), "p0");
        Check.same("does not stand any more", self.stands(0, 0, NONE), NONE);
        self.go(0);
        Check.same("asked again", self.seen(0), "p0 q0=b");
    }

    // promise 23
    private static void back() {
        Askhouse house = Check.pages(3);
        house.question(1, 0, 2, 0);
        Check.refused("person -1", Check.INDEX, house, () -> house.back(-1));
        Check.refused("not begun", Check.STATE, house, () -> house.back(0));
        Check.begin(house, 1);
        Check.refused("no step", Check.STATE, house, () -> house.back(0));
        house.go(0);
        house.answer(0, 0, NONE, 1);
        house.go(0);
        house.go(0);
        Check.same("from the end", house.back(0), 2);
        Check.same("back", house.back(0), 1);
        Check.same("it stands still", house.stands(0, 0, NONE), 1);
        Check.same("back", house.back(0), 0);
        Check.same("kept, but not asked", house.stands(0, 0, NONE), NONE);
        Check.refused("no step left", Check.STATE, house, () -> house.back(0));
    }

    // promise 24
    private static void send() {
        Askhouse house = Check.pages(1);
        house.question(0, 0, 2, 0);
        Check.refused("person 8", Check.INDEX, house, () -> house.send(8));
        Check.refused("not begun", Check.STATE, house, () -> house.send(0));
        Check.begin(house, 2);
        Check.refused("not in the end", Check.STATE, house, () -> house.send(0));
        house.answer(0, 0, NONE, 1);
        Check.refused("not in the end", Check.STATE, house, () -> house.send(0));
        house.go(0);
        Check.same("send", house.send(0), 1);
        Check.same("sent", house.ofPerson(0, 0), 3);
        Check.refused("sent already", Check.STATE, house, () -> house.send(0));
        house.answer(1, 0, NONE, 0);
        house.go(1);
        house.jump(0, NONE, 0);
        Check.same("the second one", house.send(1), 2);
        Check.same("count", house.count(5), 2);
    }

    private static void sendQuotas() {
        Askhouse house = Check.pages(1);
        house.question(0, 0, 3, 0);
        house.is(0, 0, 0);
        house.is(0, 2, 2);
        Check.sendWith(house, 0, 0);
        house.quota(0, 1);
        house.quota(1, 2);
        Check.same("who sent before is not counted", house.count(10), 0);
        Check.same("first of both", Check.sendWith(house, 1, 0), 2);
        Check.same("counted in both", house.count(10) * 10 + house.count(11), 11);
        Check.same("in neither", Check.sendWith(house, 2, 2), 3);
        Check.same("counted in neither", house.count(10) * 10 + house.count(11), 11);
        Check.same("the first one is full", Check.sendWith(house, 3, 0), -2);
        Check.same("turned away", house.ofPerson(3, 0), 4);
        Check.same("not counted", house.count(10) * 10 + house.count(11), 11);
        Check.same("in the second one alone", Check.sendWith(house, 4, 1), 4);
        Check.same("the second one is full", Check.sendWith(house, 5, 1), -3);
        Check.same("turned away", house.count(6), 2);
        Check.same("of both the first one", Check.sendWith(house, 6, 0), -2);
        Check.same("no record", house.record(6) + house.stands(6, 0, NONE) + house.ofPerson(6, 6), "-10");
        Check.same("but kept", house.ofPerson(6, 7), 1);
        // By group, as it is drawn.
        Askhouse group = Check.pages(1);
        group.groups(2);
        group.quota(group.inGroup(1), 1);
        Check.same("group 0", Check.sendWith(group, 0), 1);
        Check.same("group 1", Check.sendWith(group, 1), 2);
        Check.same("group 0", Check.sendWith(group, 2), 3);
        Check.same("group 1 is full", Check.sendWith(group, 3), -2);
    }

    private static void noMoreThen() {
        Askhouse house = Check.pages(1);
        house.question(0, 3, 0, 5);
        house.quota(house.is(0, 0, 1), 1);
        Check.sendWith(house, 0, 1);
        Check.sendWith(house, 1, 1);
        Check.same("sent and turned away", house.ofPerson(0, 0) * 10 + house.ofPerson(1, 0), 34);
        for (int k = 0; k < 2; k++) {
            int who = k;
            Check.refused("answer", Check.STATE, house, () -> house.answer(who, 0, NONE, 1));
            Check.refused("type", Check.STATE, house, () -> house.type(who, 0, 1, 0));
            Check.refused("wipe", Check.STATE, house, () -> house.wipe(who, 0, NONE));
            Check.refused("go", Check.STATE, house, () -> house.go(who));
            Check.refused("back", Check.STATE, house, () -> house.back(who));
            Check.refused("send", Check.STATE, house, () -> house.send(who));
            Check.refused("invite", Check.STATE, house, () -> house.invite(who, 1, 1));
        }
        Check.same("reminded is neither", house.remind(0), 0);
    }

    // promise 25
    private static void pass() {
        Askhouse house = new Askhouse();
        Check.refused("none", Check.ARGUMENT, house, () -> house.pass(0));
        Check.refused("31", Check.ARGUMENT, house, () -> house.pass(31));
        Check.refused("below 0", Check.ARGUMENT, house, () -> house.pass(Integer.MIN_VALUE));
        Check.same("pass", house.pass(30), 30);
        Check.same("pass", house.pass(1), 31);
        for (int k = 0; k < 32; k++) {
            house.pass(30);
        }
        Check.same("day", house.count(7), 991);
        Check.refused("1001", Check.STATE, house, () -> house.pass(10));
        Check.refused("days before the day", Check.ARGUMENT, house, () -> house.pass(31));
        Check.same("1000", house.pass(9), 1000);
        Check.refused("1001", Check.STATE, house, () -> house.pass(1));
    }

    // promise 26
    private static void remind() {
        Askhouse house = Check.pages(1);
        house.question(0, 0, 2, 0);
        Check.refused("-1", Check.ARGUMENT, house, () -> house.remind(-1));
        Check.refused("31", Check.ARGUMENT, house, () -> house.remind(31));
        Check.same("nobody", house.remind(0), 0);
        house.invite(6, 1, 1);
        Check.same("invited is not begun", house.remind(0), 0);
        house.call();
        house.pass(3);
        Check.begin(house, 2);
        house.pass(2);
        Check.same("six for five days", house.remind(5), 64);
        Check.same("nobody for so long", house.remind(6), 0);
        Check.same("all for two", house.remind(2), 67);
        Check.same("six was reminded twice", house.remind(0), 3);
        Check.same("all were", house.remind(0), 0);
        Check.same("how often", house.ofPerson(6, 4) * 10 + house.ofPerson(0, 4), 22);
        Check.same("not at all", house.ofPerson(2, 4), 0);
        Askhouse month = Check.pages(1);
        Check.begin(month, 1);
        month.pass(29);
        Check.same("29 days are not 30", month.remind(30), 0);
        month.pass(1);
        Check.same("30 days are", month.remind(30), 1);
    }

    // promise 27
    private static void knock() {
        Askhouse house = new Askhouse();
        Check.same("knock", house.knock(), 1);
        Check.same("knock", house.knock(), 2);
        Check.same("count", house.count(9), 2);
        Check.same("nothing else is counted there", house.count(4), 0);
        Check.same("another house", new Askhouse().knock(), 1);
    }

    // promise 28
    private static void ofPerson() {
        Askhouse house = Check.pages(2);
        house.question(0, 0, 2, 0);
        house.question(0, 0, 2, 0);
        house.show(1, house.is(0, 0, 1));
        Check.refused("person 8", Check.INDEX, house, () -> house.ofPerson(8, 0));
        Check.refused("person before what", Check.INDEX, house, () -> house.ofPerson(-1, 9));
        Check.refused("what 9", Check.ARGUMENT, house, () -> house.ofPerson(0, 9));
        Check.refused("what -1", Check.ARGUMENT, house, () -> house.ofPerson(0, -1));
        told(house, "new", 0, NONE, NONE, NONE, 0, 0, 0, 0, 0);
        house.invite(0, 3, 17);
        house.pass(2);
        told(house, "invited", 1, NONE, NONE, 17, 0, 0, 0, 0, 0);
        house.call();
        house.pass(4);
        house.remind(1);
        told(house, "begun", 2, 0, 0, 17, 1, 4, 0, 0, 0);
        house.answer(0, 0, NONE, 1);
        house.answer(0, 1, NONE, 1);
        house.answer(0, 0, NONE, 0);
        house.go(0);
        house.pass(1);
        told(house, "on page 1", 2, 1, 0, 17, 1, 1, 1, 2, 1);
        house.go(0);
        told(house, "in the end", 2, END, 0, 17, 1, 0, 1, 2, 2);
        house.send(0);
        house.pass(5);
        told(house, "sent", 3, NONE, 0, 17, 1, 5, 1, 2, 0);
        house.quota(house.inGroup(0), 1);
        Check.sendWith(house, 1, 0, 0);
        Check.sendWith(house, 2, 0, 0);
        Check.same("turned away", house.ofPerson(2, 0), 4);
        int[] away = {4, NONE, 0, 0, 0, 0, 0, 1, 0};
        for (int k = 0; k < away.length; k++) {
            Check.same("turned away " + k, house.ofPerson(2, k), away[k]);
        }
    }

    private static void told(Askhouse house, String when, int... due) {
        for (int what = 0; what < due.length; what++) {
            Check.same(when + " " + what, house.ofPerson(0, what), due[what]);
        }
    }

    private static void idle() {
        Askhouse house = Check.pages(2);
        house.question(0, 3, 0, 3);
        house.is(0, 0, 0);
        Check.begin(house, 1);
        house.pass(7);
        Check.same("since called", house.ofPerson(0, 5), 7);
        house.answer(0, 0, NONE, 9);
        house.type(0, 0, 9, 0);
        house.go(0);
        Check.same("what is refused does not count", house.ofPerson(0, 5), 7);
        house.answer(0, 0, NONE, 1);
        Check.same("answered", house.ofPerson(0, 5), 0);
        house.pass(1);
        house.wipe(0, 0, NONE);
        Check.same("wiped", house.ofPerson(0, 5), 0);
        house.pass(1);
        house.type(0, 0, 0, 0);
        Check.same("typed", house.ofPerson(0, 5), 0);
        house.pass(1);
        house.check(0, house.not(0));
        house.go(0);
        Check.same("held up by a check", house.ofPerson(0, 5), 1);
        house.answer(0, 0, NONE, 1);
        house.pass(1);
        house.go(0);
        Check.same("went on", house.ofPerson(0, 5), 0);
        house.pass(1);
        house.back(0);
        Check.same("went back", house.ofPerson(0, 5), 0);
        house.pass(2);
        house.remind(0);
        house.seen(0);
        Check.same("reminded, looked at", house.ofPerson(0, 5), 2);
        house.go(0);
        house.go(0);
        house.pass(3);
        house.send(0);
        Check.same("to send is none of these", house.ofPerson(0, 5), 3);
    }

    // promise 29
    private static void stands() {
        Askhouse house = Check.pages(2);
        house.question(0, 1, 2, 0);
        house.question(1, 0, 3, 0);
        house.loop(1, 0, 2);
        Check.refused("person 8", Check.INDEX, house, () -> house.stands(8, 0, NONE));
        Check.refused("question 2", Check.INDEX, house, () -> house.stands(0, 2, NONE));
        Check.refused("question -1", Check.INDEX, house, () -> house.stands(0, -1, NONE));
        Check.same("new", house.stands(0, 0, NONE), NONE);
        Check.begin(house, 1);
        Check.same("nothing said", house.stands(0, 0, NONE), NONE);
        house.answer(0, 0, NONE, 2);
        house.go(0);
        house.answer(0, 1, 1, 2);
        Check.same("option NONE", house.stands(0, 0, NONE), 2);
        Check.same("option 1", house.stands(0, 1, 1), 2);
        Check.same("option 0", house.stands(0, 1, 0), NONE);
        for (int option : new int[] {-2, 4, 5, Integer.MAX_VALUE, Integer.MIN_VALUE}) {
            Check.same("no such option", house.stands(0, 1, option), NONE);
            Check.same("no such option", house.stands(0, 0, option), NONE);
        }
        house.answer(0, 0, NONE, 1);
        Check.same("does not stand any more", house.stands(0, 1, 1), NONE);
        house.answer(0, 0, NONE, 2);
        house.go(0);
        house.send(0);
        Check.same("in the record", house.stands(0, 1, 1), 2);
        house.dropJump(0, 0);
        house.loop(1, NONE, 0);
        Check.same("whatever becomes of the form", house.stands(0, 1, 1), 2);
    }

    // promise 30
    private static void seen() {
        Askhouse house = Check.pages(2);
        house.question(0, 1, 3, 0);
        house.question(1, 0, 2, 0);
        house.question(1, 3, -2, 5);
        house.place(1, 0);
        house.place(2, 1);
        Check.refused("person 8", Check.INDEX, house, () -> house.seen(8));
        Check.refused("person -1", Check.INDEX, house, () -> house.seen(-1));
        Check.same("new", house.seen(0), "");
        house.invite(0, 0, 0);
        Check.same("invited", house.seen(0), "");
        house.call();
        Check.same("begun", house.seen(0), "p0 q0=?");
        house.answer(0, 0, NONE, 5);
        Check.same("answered", house.seen(0), "p0 q0=ac");
        house.go(0);
        Check.same("placed", house.seen(0), "p1 q1[ac]=? q2[-]=?");
        house.answer(0, 1, NONE, 0);
        house.answer(0, 2, NONE, 0);
        Check.same("answered", house.seen(0), "p1 q1[ac]=a q2[a]=-2");
        house.loop(1, 0, 4);
        Check.same("in a loop", house.seen(0), "p1 q1.0[ac]=? q1.2[ac]=? q2.0[-]=? q2.2[-]=?");
        house.loop(1, NONE, 0);
        house.go(0);
        Check.same("end", house.seen(0), "end");
        house.send(0);
        Check.same("sent", house.seen(0), "");
    }

    private static void seenTexts() {
        // kind, a, b, code; and its text
        int[][] answers = {
            {0, 5, 0, 0}, {0, 5, 0, 4}, {1, 4, 0, 0}, {1, 4, 0, 10}, {1, 4, 0, 15}, {2, 2, 0, 0}, {2, 2, 0, 1},
            {2, 3, 0, 0}, {2, 3, 0, 1}, {2, 3, 0, 2}, {2, 3, 0, 3}, {2, 3, 0, 4}, {2, 3, 0, 5}, {3, -50, -41, 0}, {3, -3, 6, 3},
            {3, -3, 6, 9}, {3, 50, 59, 9}, {4, 0, 0, 85}, {4, 40, 0, 0}, {4, 40, 0, 255}, {4, 80, 0, 170}, {4, 15, 0, 73},
            {4, 40, 0, 192}, {5, 0, 0, 101}, {5, 0, 0, 229}, {5, 0, 0, 1231}, {6, 1, 3, 2}, {6, 2, 3, 1}, {6, 2, 3, 5},
            {6, 2, 2, 2}};
        String[] texts = {
            "a", "e", ".", "bd", "abcd", "ab", "ba", "abc", "acb", "bac", "bca", "cab", "cba", "-50", "0", "6", "59", "7777",
            "aaaa", "zzzz", "----", "7a-7", "zaaa", "1/1", "2/29", "12/31", "c", "ab", "bc", "ba"};
        for (int k = 0; k < answers.length; k++) {
            Askhouse house = Check.pages(1);
            house.question(0, answers[k][0], answers[k][1], answers[k][2]);
            Check.begin(house, 1);
            house.answer(0, 0, NONE, answers[k][3]);
            Check.same("text", house.seen(0), "p0 q0=" + texts[k]);
        }
    }

    // promise 31
    private static void choices() {
        Askhouse house = Check.pages(1);
        house.question(0, 0, 5, 0);
        house.question(0, 1, 4, 0);
        house.question(0, 2, 3, 0);
        house.question(0, 4, 0, 0);
        Check.refused("person 8", Check.INDEX, house, () -> house.choices(8, 0));
        Check.refused("question 4", Check.INDEX, house, () -> house.choices(0, 4));
        Check.refused("a text", Check.ARGUMENT, house, () -> house.choices(0, 3));
        Check.refused("not invited", Check.STATE, house, () -> house.choices(0, 0));
        house.invite(0, 0, 13);
        Check.refused("a text still", Check.ARGUMENT, house, () -> house.choices(0, 3));
        Check.same("five", house.choices(0, 0), "abcde");
        Check.same("four", house.choices(0, 1), "abcd");
        Check.same("three", house.choices(0, 2), "abc");
        for (int k = 0; k < 3; k++) {
            house.turn(k, true);
        }
        Check.same("five turned by 13", house.choices(0, 0), "deabc");
        Check.same("four turned by 13", house.choices(0, 1), "bcda");
        Check.same("three turned by 13", house.choices(0, 2), "bca");
        Askhouse other = Check.pages(1);
        other.question(0, 3, 0, 1);
        other.question(0, 5, 0, 0);
        other.question(0, 6, 1, 2);
        other.invite(0, 0, 0);
        for (int k = 0; k < 3; k++) {
            int question = k;
            Check.refused("another kind", Check.ARGUMENT, other, () -> other.choices(0, question));
        }
        house.invite(1, 0, 0);
        Check.same("seed 0", house.choices(1, 0), "abcde");
    }

    // promise 32
    private static void record() {
        Askhouse house = Check.pages(3);
        house.groups(2);
        house.question(0, 1, 3, 1);
        house.question(1, 3, -9, -1);
        house.question(2, 5, 0, 0);
        house.loop(1, 0, 3);
        house.show(2, house.is(0, 4, 0));
        Check.refused("person 8", Check.INDEX, house, () -> house.record(8));
        Check.refused("person -1", Check.INDEX, house, () -> house.record(-1));
        house.invite(0, 0, 1);
        house.call();
        Check.same("not sent", house.record(0), "");
        house.answer(0, 0, NONE, 5);
        house.go(0);
        house.answer(0, 1, 2, 0);
        house.answer(0, 1, 0, 8);
        house.go(0);
        house.answer(0, 2, NONE, 704);
        house.go(0);
        Check.same("in the end", house.record(0), "");
        house.send(0);
        Check.same("sent", house.record(0), "g1 0:ac 1.0:-1 1.2:-9 2:7/4");
        house.groups(1);
        house.dropJump(0, 0);
        Check.same("whatever becomes of the form", house.record(0), "g1 0:ac 1.0:-1 1.2:-9 2:7/4");
        Askhouse hidden = Check.pages(1);
        hidden.question(0, 0, 2, 0);
        hidden.question(0, 0, 2, 0);
        hidden.show(1, hidden.is(0, 0, 1));
        Check.begin(hidden, 1);
        hidden.answer(0, 0, NONE, 1);
        hidden.answer(0, 1, NONE, 1);
        hidden.answer(0, 0, NONE, 0);
        hidden.go(0);
        hidden.send(0);
        Check.same("what is kept, but does not stand, is not in it", hidden.record(0), "g0 0:a");
        Askhouse empty = Check.pages(1);
        Check.sendWith(empty, 0);
        Check.same("no answers", empty.record(0), "g0");
    }

    // the section "People": the cursor, as the form changes under a walk
    private static void cursor() {
        Askhouse house = Check.pages(4);
        house.question(1, 0, 2, 0);
        Check.begin(house, 1);
        house.go(0);
        house.answer(0, 0, NONE, 1);
        house.go(0);
        house.go(0);
        Check.same("three steps", house.seen(0) + house.ofPerson(0, 8), "p33");
        house.is(0, 0, 0);
        house.check(1, 0);
        Check.same("held up at page 1", house.seen(0) + house.ofPerson(0, 8), "p1 q0=b1");
        Check.same("the check", house.go(0), -20);
        Check.same("the check is so, and the cursor is still at three", house.answer(0, 0, NONE, 0), 1);
        Check.same("three steps again", house.seen(0) + house.ofPerson(0, 8), "p33");
        house.question(1, 0, 2, 0);
        Check.same("held up by a new question", house.seen(0), "p1 q0=a q1=?");
        Check.same("one step back from there", house.back(0), 0);
        Check.same("the cursor is at none now", house.ofPerson(0, 8), 0);
    }
}
