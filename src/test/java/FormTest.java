/** Promises 1 to 16: the form. */
public final class FormTest {
    private static final int NONE = -1;
    private static final int END = 9;

    public static void main(String[] args) {
        aNewObject();
        page();
        question();
        questionKinds();
        questionRows();
        is();
        isBare();
        inGroup();
        join();
        not();
        show();
        jump();
        dropJump();
        check();
        quota();
        place();
        turn();
        loop();
        loopRefused();
        loopRows();
        groups();
        version();
        Check.end("FormTest");
    }

    // promise 1
    private static void aNewObject() {
        Askhouse house = new Askhouse();
        int[] counts = {0, 0, 0, 1, 0, 0, 0, 0, 0, 0, 0, 0, 0, 0};
        for (int k = 0; k < counts.length; k++) {
            Check.same("new count " + k, house.count(k), counts[k]);
        }
        int[] person = {0, NONE, NONE, NONE, 0, 0, 0, 0, 0};
        for (int who = 0; who < 8; who++) {
            for (int what = 0; what < person.length; what++) {
                Check.same("new ofPerson " + what, house.ofPerson(who, what), person[what]);
            }
            Check.same("new seen", house.seen(who), "");
            Check.same("new record", house.record(who), "");
        }
        Check.same("new line", house.line(0), "groups 1");
        Check.same("new whole", house.whole(), 3);
        Check.same("new rows", house.rows(0), 1);
        Check.same("new rows that fit", house.rows(1), 0);
        Check.same("new path", house.path(0), "!");
        Check.same("new lost", house.lost(0), "none");
        Check.same("new call", house.call(), NONE);
        Check.same("new isSound", house.isSound(), true);
        Check.same("new least", house.least(3), 3);
        Check.same("two houses share nothing", new Askhouse().page() + house.page(), 0);
    }

    // promise 2
    private static void page() {
        Askhouse house = new Askhouse();
        for (int k = 0; k < 6; k++) {
            Check.same("page", house.page(), k);
        }
        Check.same("pages", house.count(0), 6);
        Check.refused("a seventh page", Check.STATE, house, house::page);
        Check.same("a page is without jumps", house.path(0), "0");
        Check.same("a page is without a loop", house.line(5), "page -1 0");
    }

    // promise 3
    private static void question() {
        Askhouse house = new Askhouse();
        Check.refused("no page", Check.INDEX, house, () -> house.question(0, 0, 2, 0));
        house.page();
        house.page();
        Check.refused("page -1", Check.INDEX, house, () -> house.question(-1, 0, 2, 0));
        Check.refused("page 2 of two", Check.INDEX, house, () -> house.question(2, 0, 2, 0));
        Check.refused("page before kind", Check.INDEX, house, () -> house.question(2, 7, 0, 0));
        Check.same("question", house.question(1, 0, 2, 0), 0);
        for (int k = 1; k < 6; k++) {
            Check.same("question", house.question(0, 5, 0, 0), k);
        }
        Check.same("how it is", house.line(2), "ask 1 0 2 0 -1 -1 0");
        Check.refused("a seventh question", Check.STATE, house, () -> house.question(0, 5, 0, 0));
        Check.refused("kind before how many", Check.ARGUMENT, house, () -> house.question(0, 7, 0, 0));
        Check.refused("page before all", Check.INDEX, house, () -> house.question(9, 7, 0, 0));
    }

    private static void questionKinds() {
        int[][] right = {
            {0, 2, 0}, {0, 5, 0}, {1, 2, 0}, {1, 4, 4}, {1, 3, 2}, {2, 2, 0}, {2, 3, 0}, {3, -50, -49}, {3, 50, 59}, {3, 0, 9},
            {4, 0, 0}, {4, 80, 0}, {5, 0, 0}, {6, 1, 2}, {6, 2, 3}};
        for (int[] kind : right) {
            Askhouse house = Check.pages(1);
            Check.same("kind " + kind[0], house.question(0, kind[0], kind[1], kind[2]), 0);
        }
        int max = Integer.MAX_VALUE;
        int min = Integer.MIN_VALUE;
        int[][] wrong = {
            {-1, 2, 0}, {7, 2, 0}, {max, 0, 0}, {0, 1, 0}, {0, 6, 0}, {0, 2, 1}, {0, 2, -1}, {1, 1, 0}, {1, 5, 0}, {1, 2, 3},
            {1, 2, -1}, {2, 1, 0}, {2, 4, 0}, {2, 2, 1}, {3, -51, -50}, {3, 51, 52}, {3, 0, 0}, {3, 0, 10}, {3, max, min},
            {3, min, max}, {4, -1, 0}, {4, 81, 0}, {4, 0, 1}, {5, 1, 0}, {5, 0, 1}, {6, 0, 2}, {6, 3, 2}, {6, 1, 1}, {6, 1, 4}};
        Askhouse house = Check.pages(1);
        for (int[] kind : wrong) {
            Check.refused("kind " + kind[0] + " " + kind[1] + " " + kind[2], Check.ARGUMENT, house,
                () -> house.question(0, kind[0], kind[1], kind[2]));
        }
    }

    private static void questionRows() {
        int[][] sizes = {{0, 5, 0, 5}, {1, 4, 4, 16}, {2, 2, 0, 2}, {2, 3, 0, 6}, {3, -3, 6, 10}, {6, 1, 3, 3}, {6, 2, 3, 9},
            {6, 2, 2, 4}, {4, 7, 0, 1}, {5, 0, 0, 1}};
        for (int[] size : sizes) {
            Askhouse house = Check.pages(1);
            house.question(0, size[0], size[1], size[2]);
            Check.same("rows of kind " + size[0], house.rows(0), size[3]);
        }
        Askhouse house = Check.pages(1);
        house.question(0, 3, 0, 9);
        house.question(0, 3, 0, 9);
        house.question(0, 2, 3, 0);
        Check.same("just as many as may be", house.rows(0), 600);
        Check.refused("1200 rows", Check.STATE, house, () -> house.question(0, 0, 2, 0));
        Check.refused("kind before rows", Check.ARGUMENT, house, () -> house.question(0, 0, 1, 0));
        Check.same("a free one makes no more", house.question(0, 4, 0, 0), 3);
        Askhouse three = Check.pages(1);
        three.groups(3);
        three.question(0, 3, 0, 9);
        three.question(0, 3, 0, 9);
        Check.refused("groups count, too", Check.STATE, three, () -> three.question(0, 0, 3, 0));
        Check.same("as many as may be with groups", three.question(0, 0, 2, 0), 2);
        Askhouse looped = Check.pages(2);
        looped.question(0, 1, 4, 0);
        looped.loop(1, 0, 4);
        looped.question(0, 6, 2, 3);
        looped.question(0, 0, 4, 0);
        Check.same("rows beside a loop", looped.rows(0), 576);
        Check.same("a question in a loop makes no more", looped.question(1, 3, 0, 9), 3);
    }

    // promise 4
    private static void is() {
        Askhouse house = Check.pages(1);
        house.question(0, 0, 5, 0);
        house.question(0, 1, 3, 0);
        Check.refused("no question", Check.INDEX, house, () -> house.is(2, 0, 0));
        Check.refused("question -1", Check.INDEX, house, () -> house.is(-1, 0, 0));
        Check.refused("question before how", Check.INDEX, house, () -> house.is(2, 5, 100));
        Check.refused("how -1", Check.ARGUMENT, house, () -> house.is(0, -1, 0));
        Check.refused("how 5", Check.ARGUMENT, house, () -> house.is(0, 5, 0));
        Check.refused("value -1", Check.ARGUMENT, house, () -> house.is(0, 0, -1));
        Check.refused("value 100", Check.ARGUMENT, house, () -> house.is(0, 0, 100));
        Check.refused("4 for one", Check.ARGUMENT, house, () -> house.is(0, 4, 0));
        for (int how = 0; how < 4; how++) {
            Check.same("is", house.is(0, how, how == 0 ? 99 : 2), how);
        }
        Check.same("is", house.is(1, 4, 1), 4);
        String[] texts = {"if q0=99", "if q0#2", "if q0<2", "if q0>2", "if q1~1"};
        for (int k = 0; k < texts.length; k++) {
            Check.same("its text", house.line(3 + k), texts[k]);
        }
        for (int k = 5; k < 16; k++) {
            Check.same("is", house.is(0, 0, 0), k);
        }
        Check.refused("a seventeenth one", Check.STATE, house, () -> house.is(0, 0, 0));
        Check.refused("value before how many", Check.ARGUMENT, house, () -> house.is(0, 0, 100));
        isSo();
    }

    /** Each way to compare, seen by where a jump leads: "09" if it is so, "0" if not. */
    private static void isSo() {
        String[][] due = {
            {"0", "0", "09", "0", "0"}, {"09", "09", "0", "09", "09"}, {"09", "09", "0", "0", "0"}, {"0", "0", "09", "09", "09"}};
        for (int how = 0; how < 4; how++) {
            Askhouse house = new Askhouse();
            house.page();
            house.question(0, 0, 5, 0);
            house.jump(0, house.is(0, how, 2), END);
            for (int code = 0; code < 5; code++) {
                Check.same("how " + how + " of " + code, house.path(code), due[how][code]);
            }
        }
        String[] chosen = {"0", "0", "09", "09", "0", "0", "09", "09"};
        Askhouse house = new Askhouse();
        house.page();
        house.question(0, 1, 3, 0);
        house.jump(0, house.is(0, 4, 1), END);
        Check.same("no such choice", house.is(0, 4, 32), 1);
        house.jump(0, 1, END);
        for (int code = 0; code < 8; code++) {
            Check.same("holds 1 of " + code, house.path(code), chosen[code]);
        }
        // Nothing is so of a question that nobody answered, not even that it is unlike.
        for (int how = 0; how < 4; how++) {
            Askhouse unasked = new Askhouse();
            unasked.page();
            unasked.page();
            unasked.question(1, 0, 2, 0);
            unasked.jump(0, unasked.is(0, how, 0), END);
            Check.same("without an answer", unasked.path(0), "0");
        }
    }

    private static void isBare() {
        Askhouse house = Check.pages(2);
        house.question(0, 4, 0, 0);
        house.question(0, 5, 0, 0);
        house.question(0, 1, 2, 0);
        house.question(1, 0, 2, 0);
        house.loop(1, 2, 1);
        Check.refused("about a text", Check.STATE, house, () -> house.is(0, 0, 0));
        Check.refused("about a date", Check.STATE, house, () -> house.is(1, 0, 0));
        Check.refused("about one in a loop", Check.STATE, house, () -> house.is(3, 0, 0));
        Check.refused("value before bare", Check.ARGUMENT, house, () -> house.is(0, 0, 100));
        house.loop(1, NONE, 0);
        Check.same("not in a loop any more", house.is(3, 0, 0), 0);
    }

    // promise 5
    private static void inGroup() {
        Askhouse house = new Askhouse();
        Check.refused("group -1", Check.ARGUMENT, house, () -> house.inGroup(-1));
        Check.refused("group 3", Check.ARGUMENT, house, () -> house.inGroup(3));
        for (int k = 0; k < 16; k++) {
            Check.same("inGroup", house.inGroup(k % 3), k);
        }
        Check.same("its text", house.line(2), "if g=2");
        Check.refused("a seventeenth one", Check.STATE, house, () -> house.inGroup(0));
        Check.refused("value before how many", Check.ARGUMENT, house, () -> house.inGroup(3));
        house.page();
        house.groups(3);
        house.jump(0, 1, END);
        Check.same("group 0", house.path(0), "0");
        Check.same("group 1", house.path(1), "09");
        Check.same("group 2", house.path(2), "0");
    }

    // promise 6
    private static void join() {
        Askhouse house = new Askhouse();
        house.page();
        house.question(0, 0, 3, 0);
        house.groups(2);
        Check.refused("no condition", Check.INDEX, house, () -> house.join(0, 0, true));
        house.is(0, 0, 1);
        house.inGroup(1);
        Check.refused("a -1", Check.INDEX, house, () -> house.join(-1, 0, true));
        Check.refused("a 2", Check.INDEX, house, () -> house.join(2, 0, true));
        Check.refused("b -1", Check.INDEX, house, () -> house.join(0, -1, true));
        Check.refused("b 2", Check.INDEX, house, () -> house.join(0, 2, true));
        Check.same("both", house.join(0, 1, true), 2);
        Check.same("either", house.join(1, 0, false), 3);
        Check.same("both as text", house.line(4), "if (q0=1&g=1)");
        Check.same("either as text", house.line(5), "if (g=1|q0=1)");
        house.jump(0, 2, END);
        String[] both = {"0", "0", "0", "0", "09", "0"};
        for (int k = 0; k < 6; k++) {
            Check.same("both in row " + k, house.path(k), both[k]);
        }
        house.dropJump(0, 0);
        house.jump(0, 3, END);
        String[] either = {"0", "09", "0", "09", "09", "09"};
        for (int k = 0; k < 6; k++) {
            Check.same("either in row " + k, house.path(k), either[k]);
        }
        Check.same("four", house.join(2, 3, true), 4);
        Check.same("eight", house.join(4, 4, false), 5);
        Check.refused("nine", Check.STATE, house, () -> house.join(5, 0, true));
        Check.refused("sixteen", Check.STATE, house, () -> house.join(5, 5, true));
        for (int k = 6; k < 16; k++) {
            Check.same("the same twice", house.join(0, 0, true), k);
        }
        Check.refused("a seventeenth one", Check.STATE, house, () -> house.join(0, 0, true));
        Check.refused("the condition before how many", Check.INDEX, house, () -> house.join(16, 0, true));
    }

    // promise 7
    private static void not() {
        Askhouse house = new Askhouse();
        house.page();
        house.groups(2);
        Check.refused("no condition", Check.INDEX, house, () -> house.not(0));
        house.inGroup(0);
        Check.refused("a -1", Check.INDEX, house, () -> house.not(-1));
        Check.refused("a 1", Check.INDEX, house, () -> house.not(1));
        Check.same("not", house.not(0), 1);
        Check.same("not not", house.not(1), 2);
        Check.same("its text", house.line(3), "if !!g=0");
        house.jump(0, 1, END);
        Check.same("group 0 is not not 0", house.path(0), "0");
        Check.same("group 1 is not 0", house.path(1), "09");
        int four = house.join(house.join(0, 1, true), house.join(0, 2, true), true);
        int eight = house.join(four, four, true);
        int turned = house.not(eight);
        Check.refused("a turned one has as many", Check.STATE, house, () -> house.join(turned, 0, true));
        for (int k = turned + 1; k < 16; k++) {
            house.not(0);
        }
        Check.refused("a seventeenth one", Check.STATE, house, () -> house.not(0));
        Check.refused("the condition before how many", Check.INDEX, house, () -> house.not(16));
    }

    // promise 8
    private static void show() {
        Askhouse house = Check.pages(1);
        house.question(0, 0, 2, 0);
        house.question(0, 0, 3, 0);
        Check.refused("no question", Check.INDEX, house, () -> house.show(2, NONE));
        Check.refused("question -1", Check.INDEX, house, () -> house.show(-1, NONE));
        Check.refused("no condition", Check.INDEX, house, () -> house.show(0, 0));
        Check.refused("condition -2", Check.INDEX, house, () -> house.show(0, -2));
        house.is(0, 0, 1);
        Check.same("show", house.show(1, 0), 6);
        Check.same("its line", house.line(2), "ask 0 0 3 0 0 -1 0");
        Check.begin(house, 1);
        Check.same("not shown yet", house.seen(0), "p0 q0=?");
        Check.same("shown", house.answer(0, 0, NONE, 1), 1);
        Check.same("shown", house.seen(0), "p0 q0=b q1=?");
        Check.same("both stand", house.answer(0, 1, NONE, 2), 2);
        Check.same("hidden again", house.answer(0, 0, NONE, 0), 1);
        Check.same("but kept", house.ofPerson(0, 7), 2);
        Check.same("no show", house.show(1, NONE), 7);
        Check.same("shown without one", house.seen(0), "p0 q0=a q1=c");
        Check.same("shown by itself: never", house.show(0, 0) > 0 && house.seen(0).equals("p0 q1=c"), true);
    }

    // promise 9
    private static void jump() {
        Askhouse house = new Askhouse();
        house.page();
        house.page();
        house.inGroup(1);
        Check.refused("page 2", Check.INDEX, house, () -> house.jump(2, NONE, END));
        Check.refused("page -1", Check.INDEX, house, () -> house.jump(-1, NONE, END));
        Check.refused("page END", Check.INDEX, house, () -> house.jump(END, NONE, END));
        Check.refused("target 2", Check.INDEX, house, () -> house.jump(0, NONE, 2));
        Check.refused("target NONE", Check.INDEX, house, () -> house.jump(0, NONE, NONE));
        Check.refused("target 8", Check.INDEX, house, () -> house.jump(0, NONE, 8));
        Check.refused("condition 1", Check.INDEX, house, () -> house.jump(0, 1, END));
        Check.refused("condition -2", Check.INDEX, house, () -> house.jump(0, -2, END));
        house.groups(2);
        Check.same("jump", house.jump(0, 0, 1), 1);
        Check.same("jump", house.jump(0, NONE, END), 2);
        Check.same("jump", house.jump(0, NONE, 1), 3);
        Check.same("of another page", house.jump(1, NONE, END), 1);
        Check.refused("a fourth one", Check.STATE, house, () -> house.jump(0, NONE, END));
        Check.refused("the target before how many", Check.INDEX, house, () -> house.jump(0, NONE, 7));
        Check.same("the first that is so leads", house.path(0), "09");
        Check.same("the first that is so leads", house.path(1), "019");
        Check.same("lines page by page", house.line(3) + ";" + house.line(6), "jump 0 0 1;jump 1 -1 9");
    }

    // promise 10
    private static void dropJump() {
        Askhouse house = new Askhouse();
        house.page();
        house.page();
        house.jump(0, NONE, 0);
        house.jump(0, NONE, 1);
        house.jump(0, NONE, END);
        Check.refused("page 2", Check.INDEX, house, () -> house.dropJump(2, 0));
        Check.refused("page -1", Check.INDEX, house, () -> house.dropJump(-1, 0));
        Check.refused("jump -1", Check.INDEX, house, () -> house.dropJump(0, -1));
        Check.refused("jump 3", Check.INDEX, house, () -> house.dropJump(0, 3));
        Check.refused("jump 0 of none", Check.INDEX, house, () -> house.dropJump(1, 0));
        Check.same("the middle one", house.dropJump(0, 1), 2);
        Check.same("what is left", house.line(2) + ";" + house.line(3), "jump 0 -1 0;jump 0 -1 9");
        Check.same("the first one", house.dropJump(0, 0), 1);
        Check.same("what leads now", house.path(0), "09");
        Check.same("the last one", house.dropJump(0, 0), 0);
        Check.refused("none is left", Check.INDEX, house, () -> house.dropJump(0, 0));
        Check.same("room again", house.jump(0, NONE, 1), 1);
    }

    // promise 11
    private static void check() {
        Askhouse house = Check.pages(2);
        house.question(0, 0, 2, 0);
        Check.refused("no condition", Check.INDEX, house, () -> house.check(0, 0));
        house.is(0, 0, 1);
        Check.refused("condition NONE", Check.INDEX, house, () -> house.check(0, NONE));
        Check.refused("page 2", Check.INDEX, house, () -> house.check(2, 0));
        Check.refused("page -1", Check.INDEX, house, () -> house.check(-1, 0));
        Check.same("check", house.check(0, 0), 0);
        Check.same("not so", house.path(0), "0!");
        Check.same("so", house.path(1), "019");
        house.inGroup(0);
        for (int k = 1; k < 4; k++) {
            Check.same("check", house.check(1, 1), k);
        }
        Check.refused("a fifth one", Check.STATE, house, () -> house.check(0, 0));
        Check.refused("the page before how many", Check.INDEX, house, () -> house.check(2, 0));
        Check.same("its line", house.line(7), "check 0 0");
    }

    // promise 12
    private static void quota() {
        Askhouse house = Check.pages(1);
        Check.refused("no condition", Check.INDEX, house, () -> house.quota(0, 1));
        house.inGroup(0);
        Check.refused("condition NONE", Check.INDEX, house, () -> house.quota(NONE, 1));
        Check.refused("condition before limit", Check.INDEX, house, () -> house.quota(1, 0));
        Check.refused("limit 0", Check.ARGUMENT, house, () -> house.quota(0, 0));
        Check.refused("limit 9", Check.ARGUMENT, house, () -> house.quota(0, 9));
        for (int k = 0; k < 4; k++) {
            Check.same("quota", house.quota(0, k == 0 ? 1 : 8), k);
        }
        Check.refused("a fifth one", Check.STATE, house, () -> house.quota(0, 1));
        Check.refused("limit before how many", Check.ARGUMENT, house, () -> house.quota(0, 9));
        Check.same("its line", house.line(3), "quota 0 1");
        Check.same("nobody is counted", house.count(10), 0);
    }

    // promise 13
    private static void place() {
        Askhouse house = Check.pages(1);
        house.question(0, 0, 2, 0);
        house.question(0, 0, 3, 0);
        Check.refused("no question", Check.INDEX, house, () -> house.place(2, 0));
        Check.refused("question -1", Check.INDEX, house, () -> house.place(-1, 0));
        Check.refused("no other", Check.INDEX, house, () -> house.place(0, 2));
        Check.refused("other -2", Check.INDEX, house, () -> house.place(0, -2));
        Check.refused("the same, but there is none", Check.INDEX, house, () -> house.place(2, 2));
        Check.refused("itself", Check.ARGUMENT, house, () -> house.place(1, 1));
        Check.same("place", house.place(1, 0), 5);
        Check.same("its line", house.line(2), "ask 0 0 3 0 -1 0 0");
        Check.begin(house, 1);
        Check.same("without an answer", house.seen(0), "p0 q0=? q1[-]=?");
        house.answer(0, 0, NONE, 1);
        Check.same("with an answer", house.seen(0), "p0 q0=b q1[b]=?");
        Check.same("no place", house.place(1, NONE), 6);
        Check.same("without a place", house.seen(0), "p0 q0=b q1=?");
    }

    // promise 14
    private static void turn() {
        Askhouse house = Check.pages(1);
        house.question(0, 0, 3, 0);
        Check.refused("no question", Check.INDEX, house, () -> house.turn(1, true));
        Check.refused("question -1", Check.INDEX, house, () -> house.turn(-1, true));
        house.invite(0, 1, 4);
        Check.same("was not", house.turn(0, true), false);
        Check.same("turned", house.choices(0, 0), "bca");
        Check.same("its line", house.line(1), "ask 0 0 3 0 -1 -1 1");
        Check.same("was", house.turn(0, true), true);
        Check.same("was", house.turn(0, false), true);
        Check.same("not turned", house.choices(0, 0), "abc");
        Check.same("each is counted", house.count(4), 6);
    }

    // promise 15
    private static void loop() {
        Askhouse house = Check.pages(2);
        house.question(0, 1, 4, 0);
        house.question(1, 0, 2, 0);
        Check.same("before", house.rows(0), 32);
        Check.same("loop", house.loop(1, 0, 2), 16);
        Check.same("its line", house.line(1), "page 0 2");
        Check.begin(house, 1);
        house.answer(0, 0, NONE, 14);
        house.go(0);
        Check.same("for two of three", house.seen(0), "p1 q1.1=? q1.2=?");
        Check.same("one after the other", house.answer(0, 1, 2, 0), 2);
        Check.same("the first one is missing still", house.go(0), -3);
        house.answer(0, 1, 1, 1);
        Check.same("both are there", house.go(0), END);
        Check.same("MOST changes", house.loop(1, 0, 4), 16);
        Check.same("now the third one is asked", house.seen(0), "p1 q1.1=b q1.2=a q1.3=?");
        Check.same("taken away", house.loop(1, NONE, 0), 32);
        Check.same("asked once", house.seen(0), "p1 q1=?");
        Check.same("none", house.line(1), "page -1 0");
        // Without anything chosen nothing is asked; nor without an answer.
        house.loop(1, 0, 4);
        house.back(0);
        house.answer(0, 0, NONE, 0);
        Check.same("on to the loop", house.go(0), 1);
        Check.same("nothing chosen", house.seen(0), "p1");
        Check.same("and on", house.go(0), END);
        Check.same("a page may loop that comes first", Check.pages(2).loop(0, NONE, 0), 1);
        Askhouse early = Check.pages(2);
        early.question(1, 1, 2, 0);
        early.question(0, 0, 2, 0);
        early.loop(0, 0, 2);
        Check.begin(early, 1);
        Check.same("nothing stands yet", early.seen(0), "p0");
    }

    private static void loopRefused() {
        Askhouse house = Check.pages(3);
        house.question(0, 1, 4, 0);
        house.question(1, 0, 2, 0);
        house.question(2, 1, 2, 0);
        Check.refused("page 3", Check.INDEX, house, () -> house.loop(3, 0, 1));
        Check.refused("page -1", Check.INDEX, house, () -> house.loop(-1, 0, 1));
        Check.refused("question 3", Check.INDEX, house, () -> house.loop(1, 3, 1));
        Check.refused("question -2", Check.INDEX, house, () -> house.loop(1, -2, 1));
        Check.refused("question before most", Check.INDEX, house, () -> house.loop(1, 3, 9));
        Check.refused("kind 0", Check.ARGUMENT, house, () -> house.loop(0, 1, 1));
        Check.refused("on that page", Check.ARGUMENT, house, () -> house.loop(0, 0, 1));
        Check.refused("most 0", Check.ARGUMENT, house, () -> house.loop(1, 0, 0));
        Check.refused("most 5", Check.ARGUMENT, house, () -> house.loop(1, 0, 5));
        Check.refused("most 1 without a loop", Check.ARGUMENT, house, () -> house.loop(1, NONE, 1));
        house.is(1, 0, 0);
        Check.refused("a condition is about it", Check.STATE, house, () -> house.loop(1, 0, 1));
        Check.refused("most before the condition", Check.ARGUMENT, house, () -> house.loop(1, 0, 5));
        house.rim(2, 0, 5);
        Check.refused("a rim is about it", Check.STATE, house, () -> house.loop(2, 0, 1));
        Check.same("no loop is no loop", house.loop(2, NONE, 0), 128);
        Check.same("of that page nothing is", house.loop(0, 2, 1), 8);
    }

    private static void loopRows() {
        Askhouse house = Check.pages(2);
        house.question(0, 1, 4, 0);
        house.question(1, 3, 0, 9);
        house.loop(1, 0, 1);
        house.question(0, 0, 4, 0);
        house.question(0, 0, 4, 0);
        Check.same("with the loop", house.rows(0), 256);
        Check.refused("2560 without it", Check.STATE, house, () -> house.loop(1, NONE, 0));
        Check.refused("most before rows", Check.ARGUMENT, house, () -> house.loop(1, NONE, 1));
        Check.same("another most", house.loop(1, 0, 3), 256);
        Askhouse most = Check.pages(2);
        most.question(0, 1, 2, 0);
        most.question(1, 3, 0, 9);
        most.loop(1, 0, 1);
        most.question(0, 0, 5, 0);
        most.groups(3);
        Check.same("as many as may be", most.loop(1, NONE, 0), 600);
        Check.same("and with the loop again", most.loop(1, 0, 4), 60);
    }

    // promise 16
    private static void groups() {
        Askhouse house = Check.pages(1);
        Check.refused("none", Check.ARGUMENT, house, () -> house.groups(0));
        Check.refused("four", Check.ARGUMENT, house, () -> house.groups(4));
        house.question(0, 3, 0, 9);
        Check.same("three", house.groups(3), 30);
        Check.same("two", house.groups(2), 20);
        Check.same("its line", house.line(3), "groups 2");
        house.question(0, 3, 0, 9);
        house.question(0, 0, 3, 0);
        Check.same("as many as may be", house.rows(0), 600);
        Check.refused("900", Check.STATE, house, () -> house.groups(3));
        Check.refused("many before rows", Check.ARGUMENT, house, () -> house.groups(4));
        Check.same("fewer", house.groups(1), 300);
        Check.same("up to as many as may be", house.groups(2), 600);
        house.groups(1);
        Check.same("the same is counted, too", house.groups(1), 300);
        Check.same("version", house.count(4), 11);
    }

    private static void version() {
        Askhouse house = new Askhouse();
        house.page();
        house.page();
        house.question(0, 1, 2, 0);
        house.is(0, 4, 0);
        house.inGroup(1);
        house.join(0, 1, true);
        house.not(0);
        house.show(0, NONE);
        house.jump(0, NONE, END);
        house.dropJump(0, 0);
        house.check(0, 0);
        house.quota(0, 1);
        house.place(0, NONE);
        house.turn(0, false);
        house.loop(1, 0, 1);
        house.groups(1);
        Check.same("sixteen calls", house.count(4), 16);
        house.invite(0, 0, 0);
        house.call();
        house.pass(1);
        house.knock();
        house.rim(0, 0, 1);
        house.least(2);
        Check.same("other calls are not counted", house.count(4), 16);
        Check.refused("nor are refused ones", Check.INDEX, house, () -> house.show(1, 0));
    }
}
