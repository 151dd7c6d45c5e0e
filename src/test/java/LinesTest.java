/** Promises 46 to 50: the lines of the form, their faults, counts, whether all is sound, and the digest. */
public final class LinesTest {
    private static final int NONE = -1;
    private static final int END = 9;
    private static final int BLANK = 11;

    public static void main(String[] args) {
        line();
        lineOfCondition();
        spoiledRefused();
        spoiledName();
        spoiledPage();
        spoiledAsk();
        spoiledBounds();
        spoiledCondition();
        spoiledOthers();
        spoiledAll();
        count();
        isSound();
        digest();
        Check.end("LinesTest");
    }

    /** A form with a line of each sort. */
    static Askhouse full() {
        Askhouse house = new Askhouse();
        house.page();
        house.page();
        house.question(0, 1, 3, 2);
        house.question(1, 3, -12, -7);
        house.question(0, 0, 4, 0);
        house.loop(1, 0, 2);
        house.is(2, 3, 10);
        house.inGroup(1);
        house.join(0, 1, true);
        house.not(2);
        house.show(2, 1);
        house.place(1, 2);
        house.turn(0, true);
        house.jump(1, NONE, END);
        house.jump(0, 3, 1);
        house.jump(0, NONE, END);
        house.check(1, 0);
        house.quota(2, 8);
        house.groups(2);
        return house;
    }

    private static final String[] FULL = {
        "page -1 0", "page 0 2", "ask 0 1 3 2 -1 -1 1", "ask 1 3 -12 -7 -1 2 0", "ask 0 0 4 0 1 -1 0", "if q2>10", "if g=1",
        "if (q2>10&g=1)", "if !(q2>10&g=1)", "jump 0 3 1", "jump 0 -1 9", "jump 1 -1 9", "check 1 0", "quota 2 8", "groups 2"};

    // promise 46
    private static void line() {
        Askhouse house = full();
        for (int k = 0; k < FULL.length; k++) {
            Check.same("line " + k, house.line(k), FULL[k]);
        }
        Check.same("lines", house.count(3), FULL.length);
        Check.refused("line -1", Check.INDEX, house, () -> house.line(-1));
        Check.refused("line 15", Check.INDEX, house, () -> house.line(FULL.length));
        Check.refused("line far above", Check.INDEX, house, () -> house.line(Integer.MAX_VALUE));
        Askhouse empty = new Askhouse();
        Check.same("the one line", empty.line(0), "groups 1");
        Check.refused("no other", Check.INDEX, empty, () -> empty.line(1));
    }

    private static void lineOfCondition() {
        Askhouse house = Check.pages(1);
        house.question(0, 1, 4, 0);
        int[] hows = {0, 1, 2, 3, 4};
        for (int how : hows) {
            house.is(0, how, 11 * how);
        }
        int two = house.join(0, 4, false);
        int four = house.join(two, house.not(two), true);
        house.join(four, house.not(house.not(four)), false);
        String[] due = {"q0=0", "q0#11", "q0<22", "q0>33", "q0~44", "(q0=0|q0~44)", "!(q0=0|q0~44)",
            "((q0=0|q0~44)&!(q0=0|q0~44))", "!((q0=0|q0~44)&!(q0=0|q0~44))", "!!((q0=0|q0~44)&!(q0=0|q0~44))",
            "(((q0=0|q0~44)&!(q0=0|q0~44))|!!((q0=0|q0~44)&!(q0=0|q0~44)))"};
        for (int k = 0; k < due.length; k++) {
            Check.same("text", house.line(2 + k), "if " + due[k]);
        }
    }

    // promise 47
    private static void spoiledRefused() {
        Askhouse house = full();
        Check.refused("line -1", Check.INDEX, house, () -> house.spoiled(-1, 0, 0));
        Check.refused("line 15", Check.INDEX, house, () -> house.spoiled(15, 0, 0));
        Check.refused("place -1", Check.INDEX, house, () -> house.spoiled(0, -1, 0));
        Check.refused("place behind", Check.INDEX, house, () -> house.spoiled(0, FULL[0].length(), 0));
        Check.refused("place before sign", Check.INDEX, house, () -> house.spoiled(0, 99, 18));
        Check.refused("sign -1", Check.ARGUMENT, house, () -> house.spoiled(0, 0, -1));
        Check.refused("sign 18", Check.ARGUMENT, house, () -> house.spoiled(0, 0, 18));
        String before = Check.all(house);
        house.spoiled(0, 5, 1);
        Check.same("nothing is changed by it", Check.all(house), before);
    }

    /** The fault of a line with a sign in place of another; the line that comes of it is told, to be read along. */
    static void fault(Askhouse house, String line, String spoiled, int due) {
        int which = NONE;
        for (int k = 0; k < house.count(3); k++) {
            which = house.line(k).equals(line) ? k : which;
        }
        int at = 0;
        while (at < line.length() - 1 && line.charAt(at) == spoiled.charAt(at)) {
            at++;
        }
        int sign = "0123456789- q=()&!".indexOf(spoiled.charAt(at));
        Check.same("a line as told", line.substring(at + 1), spoiled.substring(at + 1));
        Check.same(line + " as " + spoiled, house.spoiled(which, at, sign), due);
    }

    private static void spoiledName() {
        Askhouse house = full();
        for (int k = 0; k < FULL.length; k++) {
            int end = FULL[k].indexOf(' ');
            for (int sign = 0; sign < 18; sign++) {
                for (int at = 0; at <= end; at++) {
                    if (FULL[k].charAt(at) != "0123456789- q=()&!".charAt(sign)) {
                        Check.same("a wrong name", house.spoiled(k, at, sign), 0);
                    }
                }
            }
            Check.same("the same sign", house.spoiled(k, end, BLANK), NONE);
        }
    }

    private static void spoiledPage() {
        Askhouse house = full();
        fault(house, "page -1 0", "page -1 0", NONE);
        fault(house, "page -1 0", "page 11 0", 1);
        fault(house, "page -1 0", "page  1 0", 1);
        fault(house, "page -1 0", "page -0 0", 2);
        fault(house, "page -1 0", "page -2 0", 1);
        fault(house, "page -1 0", "page -- 0", 1);
        fault(house, "page -1 0", "page -  0", 1);
        fault(house, "page -1 0", "page -110", 1);
        fault(house, "page -1 0", "page -1-0", 1);
        fault(house, "page -1 0", "page -1 1", 2);
        fault(house, "page -1 0", "page -1 -", 2);
        fault(house, "page -1 0", "page -1  ", 2);
        fault(house, "page -1 0", "page -1 q", 2);
        fault(house, "page 0 2", "page 1 2", 1);
        fault(house, "page 0 2", "page 2 2", 1);
        fault(house, "page 0 2", "page 3 2", 1);
        fault(house, "page 0 2", "page - 2", 1);
        fault(house, "page 0 2", "page   2", 1);
        fault(house, "page 0 2", "page 0 1", NONE);
        fault(house, "page 0 2", "page 0 4", NONE);
        fault(house, "page 0 2", "page 0 0", 2);
        fault(house, "page 0 2", "page 0 5", 2);
        fault(house, "page 0 2", "page 002", 1);
        // A loop over a question on that very page is none that can be made, but it can be read.
        Askhouse own = full();
        own.question(1, 1, 2, 0);
        fault(own, "page 0 2", "page 3 2", NONE);
    }

    private static void spoiledAsk() {
        Askhouse house = full();
        String ask = "ask 0 1 3 2 -1 -1 1";
        fault(house, ask, "ask 1 1 3 2 -1 -1 1", NONE);
        fault(house, ask, "ask 2 1 3 2 -1 -1 1", 1);
        fault(house, ask, "ask - 1 3 2 -1 -1 1", 1);
        fault(house, ask, "ask   1 3 2 -1 -1 1", 4);
        fault(house, ask, "ask 0 2 3 2 -1 -1 1", 4);
        fault(house, ask, "ask 0 5 3 2 -1 -1 1", 3);
        fault(house, ask, "ask 0 7 3 2 -1 -1 1", 2);
        fault(house, ask, "ask 0 6 3 2 -1 -1 1", 3);
        fault(house, ask, "ask 0 1 2 2 -1 -1 1", NONE);
        fault(house, ask, "ask 0 1 1 2 -1 -1 1", 3);
        fault(house, ask, "ask 0 1 5 2 -1 -1 1", 3);
        fault(house, ask, "ask 0 1 3 0 -1 -1 1", NONE);
        fault(house, ask, "ask 0 1 3 3 -1 -1 1", NONE);
        fault(house, ask, "ask 0 1 3 4 -1 -1 1", 4);
        fault(house, ask, "ask 0 1 3 2  1 -1 1", NONE);
        fault(house, ask, "ask 0 1 3 2 -0 -1 1", NONE);
        fault(house, ask, "ask 0 1 3 2 -2 -1 1", 5);
        fault(house, ask, "ask 0 1 3 2 11 -1 1", 5);
        fault(house, ask, "ask 0 1 3 2 -1  1 1", NONE);
        fault(house, ask, "ask 0 1 3 2 -1 -0 1", 6);
        fault(house, ask, "ask 0 1 3 2 -1 -3 1", 6);
        fault(house, ask, "ask 0 1 3 2 -1 -1 0", NONE);
        fault(house, ask, "ask 0 1 3 2 -1 -1 2", 7);
        fault(house, ask, "ask 0 1 3 2 -1 -1  ", 7);
        fault(house, ask, "ask 0 1 3 2 -1 -1-1", 6);
        String number = "ask 1 3 -12 -7 -1 2 0";
        fault(house, number, "ask 1 3 -11 -7 -1 2 0", NONE);
        fault(house, number, "ask 1 3 -16 -7 -1 2 0", NONE);
        fault(house, number, "ask 1 3 -17 -7 -1 2 0", 4);
        fault(house, number, "ask 1 3 -52 -7 -1 2 0", 3);
        fault(house, number, "ask 1 3 -02 -7 -1 2 0", 4);
        fault(house, number, "ask 1 3 212 -7 -1 2 0", 3);
        fault(house, number, "ask 1 3 - 2 -7 -1 2 0", 3);
        fault(house, number, "ask 1 3 -12  7 -1 2 0", 4);
        fault(house, number, "ask 1 3 -12 -3 -1 2 0", NONE);
        fault(house, number, "ask 1 3 -12 -2 -1 2 0", 4);
        fault(house, number, "ask 1 3 -12 -7 -1 1 0", 6);
        fault(house, number, "ask 1 3 -12 -7 -1 0 0", NONE);
        fault(house, number, "ask 1 3 -12 -7 -1 3 0", 6);
        fault(house, number, "ask 1 3 -12 -7 -1   0", 7);
    }

    private static void spoiledBounds() {
        // A and B of each kind, by the digits that may stand there.
        String[] kinds = {"0 2 0", "1 2 0", "2 2 0", "6 1 2"};
        String[] firsts = {"2345", "234", "23", "12"};
        String[] seconds = {"0", "012", "0", "23"};
        for (int k = 0; k < kinds.length; k++) {
            Askhouse house = Check.pages(1);
            house.question(0, kinds[k].charAt(0) - '0', kinds[k].charAt(2) - '0', kinds[k].charAt(4) - '0');
            for (int digit = 0; digit < 10; digit++) {
                char sign = (char) ('0' + digit);
                Check.same("A " + digit + " of " + kinds[k], house.spoiled(1, 8, digit), firsts[k].indexOf(sign) >= 0 ? NONE : 3);
                Check.same("B " + digit + " of " + kinds[k], house.spoiled(1, 10, digit), seconds[k].indexOf(sign) >= 0 ? NONE : 4);
            }
        }
        Askhouse text = Check.pages(1);
        text.question(0, 4, 79, 0);
        fault(text, "ask 0 4 79 0 -1 -1 0", "ask 0 4 89 0 -1 -1 0", 3);
        fault(text, "ask 0 4 79 0 -1 -1 0", "ask 0 4 99 0 -1 -1 0", 3);
        fault(text, "ask 0 4 79 0 -1 -1 0", "ask 0 4 09 0 -1 -1 0", NONE);
        fault(text, "ask 0 4 79 0 -1 -1 0", "ask 0 4 -9 0 -1 -1 0", 3);
        fault(text, "ask 0 4 79 0 -1 -1 0", "ask 0 4 7900 -1 -1 0", 3);
        fault(text, "ask 0 4 79 0 -1 -1 0", "ask 0 4 79 1 -1 -1 0", 4);
        Askhouse date = Check.pages(1);
        date.question(0, 5, 0, 0);
        fault(date, "ask 0 5 0 0 -1 -1 0", "ask 0 5 1 0 -1 -1 0", 3);
        fault(date, "ask 0 5 0 0 -1 -1 0", "ask 0 5 0 1 -1 -1 0", 4);
        Askhouse number = Check.pages(1);
        number.question(0, 3, 50, 51);
        fault(number, "ask 0 3 50 51 -1 -1 0", "ask 0 3 51 51 -1 -1 0", 3);
        fault(number, "ask 0 3 50 51 -1 -1 0", "ask 0 3 50 59 -1 -1 0", NONE);
        fault(number, "ask 0 3 50 51 -1 -1 0", "ask 0 3 50 50 -1 -1 0", 4);
        fault(number, "ask 0 3 50 51 -1 -1 0", "ask 0 3 50 61 -1 -1 0", 4);
        fault(number, "ask 0 3 50 51 -1 -1 0", "ask 0 3 50 5  -1 -1 0", 4);
    }

    private static void spoiledCondition() {
        Askhouse house = full();
        fault(house, "if q2>10", "if q1>10", NONE);
        fault(house, "if q2>10", "if q3>10", 1);
        fault(house, "if q2>10", "if qq>10", 1);
        fault(house, "if q2>10", "if 22>10", 1);
        fault(house, "if q2>10", "if q2=10", NONE);
        fault(house, "if q2>10", "if q2&10", 1);
        fault(house, "if q2>10", "if q2210", 1);
        fault(house, "if q2>10", "if q2> 0", 1);
        fault(house, "if q2>10", "if q2>1 ", NONE);
        fault(house, "if q2>10", "if q2>-0", 1);
        fault(house, "if q2>10", "if q2>00", NONE);
        fault(house, "if q2>10", "if q2>1)", 1);
        fault(house, "if q2>10", "if q2 10", 1);
        fault(house, "if q2>10", "if  2>10", 1);
        fault(house, "if q2>10", "if !2>10", 1);
        fault(house, "if g=1", "if g=9", NONE);
        fault(house, "if g=1", "if g= ", 1);
        fault(house, "if g=1", "if g11", 1);
        fault(house, "if g=1", "if q=1", 1);
        fault(house, "if g=1", "if  =1", 1);
        fault(house, "if (q2>10&g=1)", "if !q2>10&g=1)", 1);
        fault(house, "if (q2>10&g=1)", "if  q2>10&g=1)", 1);
        fault(house, "if (q2>10&g=1)", "if (q2>10 g=1)", 1);
        fault(house, "if (q2>10&g=1)", "if (q2>10)g=1)", 1);
        fault(house, "if (q2>10&g=1)", "if (q2>10&g=1 ", 1);
        fault(house, "if (q2>10&g=1)", "if (q2>10&g=12", 1);
        fault(house, "if (q2>10&g=1)", "if (q2>1&&g=1)", 1);
        fault(house, "if (q2>10&g=1)", "if (q2>100g=1)", 1);
        fault(house, "if !(q2>10&g=1)", "if ((q2>10&g=1)", 1);
        fault(house, "if !(q2>10&g=1)", "if  (q2>10&g=1)", NONE);
        fault(house, "if !(q2>10&g=1)", "if &(q2>10&g=1)", 1);
        fault(house, "if !(q2>10&g=1)", "if !!q2>10&g=1)", 1);
        // Neither the kind is looked at, nor how great a value is, nor whether the question is bare.
        Askhouse other = Check.pages(1);
        other.question(0, 1, 2, 0);
        other.question(0, 4, 0, 0);
        other.is(0, 4, 12);
        fault(other, "if q0~12", "if q1~12", NONE);
        fault(other, "if q0~12", "if q0~92", NONE);
        fault(other, "if q0~12", "if q2~12", 1);
        // As deep as can be.
        Askhouse deep = new Askhouse();
        deep.inGroup(0);
        for (int k = 1; k < 16; k++) {
            deep.not(k - 1);
        }
        Check.same("fifteen times not", deep.line(15), "if !!!!!!!!!!!!!!!g=0");
        Check.same("right", deep.spoiled(15, 3, 17), NONE);
        Check.same("a place less", deep.spoiled(15, 3, BLANK), NONE);
        Check.same("parted in the middle", deep.spoiled(15, 9, BLANK), 1);
    }

    private static void spoiledOthers() {
        Askhouse house = full();
        fault(house, "jump 0 3 1", "jump 1 3 1", NONE);
        fault(house, "jump 0 3 1", "jump 2 3 1", 1);
        fault(house, "jump 0 3 1", "jump 9 3 1", 1);
        fault(house, "jump 0 3 1", "jump 0 4 1", 2);
        fault(house, "jump 0 3 1", "jump 0 0 1", NONE);
        fault(house, "jump 0 3 1", "jump 0 3 0", NONE);
        fault(house, "jump 0 3 1", "jump 0 3 9", NONE);
        fault(house, "jump 0 3 1", "jump 0 3 2", 3);
        fault(house, "jump 0 3 1", "jump 0 3 -", 3);
        fault(house, "jump 0 3 1", "jump 0 3  ", 3);
        fault(house, "jump 0 3 1", "jump 0   1", 3);
        fault(house, "jump 0 -1 9", "jump 0  1 9", NONE);
        fault(house, "jump 0 -1 9", "jump 0 -2 9", 2);
        fault(house, "jump 0 -1 9", "jump 0 -129", 2);
        fault(house, "check 1 0", "check 0 0", NONE);
        fault(house, "check 1 0", "check 2 0", 1);
        fault(house, "check 1 0", "check 1 3", NONE);
        fault(house, "check 1 0", "check 1 4", 2);
        fault(house, "check 1 0", "check 1 -", 2);
        fault(house, "check 1 0", "check 1-0", 1);
        fault(house, "check 1 0", "check 1  ", 2);
        fault(house, "quota 2 8", "quota 3 8", NONE);
        fault(house, "quota 2 8", "quota 4 8", 1);
        fault(house, "quota 2 8", "quota 2 1", NONE);
        fault(house, "quota 2 8", "quota 2 0", 2);
        fault(house, "quota 2 8", "quota 2 9", 2);
        fault(house, "groups 2", "groups 1", NONE);
        fault(house, "groups 2", "groups 3", NONE);
        fault(house, "groups 2", "groups 0", 1);
        fault(house, "groups 2", "groups 4", 1);
        fault(house, "groups 2", "groups  ", 1);
        // One word too many: the check's condition is 1 with a blank in "10", and 0 follows.
        Askhouse many = new Askhouse();
        many.page();
        for (int k = 0; k < 11; k++) {
            many.inGroup(0);
        }
        many.check(0, 10);
        many.quota(10, 8);
        many.jump(0, 10, 0);
        fault(many, "check 0 10", "check 0 1 ", NONE);
        fault(many, "quota 10 8", "quota 1  8", NONE);
        fault(many, "jump 0 10 0", "jump 0  0 0", NONE);
        Askhouse wide = Check.pages(1);
        wide.question(0, 3, -10, -9);
        fault(wide, "ask 0 3 -10 -9 -1 -1 0", "ask 0 3 -1  -9 -1 -1 0", 4);
    }

    private static void spoiledAll() {
        // Each sign at each place, as the oracle's other way of reading tells it.
        Askhouse house = full();
        Oracle oracle = new Oracle();
        oracle.page();
        oracle.page();
        oracle.question(0, 1, 3, 2);
        oracle.question(1, 3, -12, -7);
        oracle.question(0, 0, 4, 0);
        oracle.loop(1, 0, 2);
        oracle.is(2, 3, 10);
        oracle.inGroup(1);
        oracle.join(0, 1, true);
        oracle.not(2);
        oracle.show(2, 1);
        oracle.place(1, 2);
        oracle.turn(0, true);
        oracle.jump(1, NONE, END);
        oracle.jump(0, 3, 1);
        oracle.jump(0, NONE, END);
        oracle.check(1, 0);
        oracle.quota(2, 8);
        oracle.groups(2);
        for (int line = 0; line < FULL.length; line++) {
            for (int at = 0; at < FULL[line].length(); at++) {
                for (int sign = 0; sign < 18; sign++) {
                    Check.same(FULL[line] + " at " + at + " with " + sign, house.spoiled(line, at, sign),
                        oracle.spoiled(line, at, sign));
                }
            }
        }
    }

    // promise 48
    private static void count() {
        Askhouse house = full();
        Check.refused("what -1", Check.ARGUMENT, house, () -> house.count(-1));
        Check.refused("what 14", Check.ARGUMENT, house, () -> house.count(14));
        house.rim(0, 0, 3);
        house.rim(2, 1, 3);
        house.pass(5);
        house.knock();
        house.knock();
        house.knock();
        int[] due = {2, 3, 4, 15, 19, 0, 0, 5, 2, 3, 0, 0, 0, 0};
        for (int k = 0; k < due.length; k++) {
            Check.same("count " + k, house.count(k), due[k]);
        }
        Askhouse sent = Check.pages(1);
        for (int k = 0; k < 4; k++) {
            sent.inGroup(0);
            sent.quota(0, k == 3 ? 2 : 8);
        }
        Check.sendWith(sent, 0);
        Check.sendWith(sent, 1);
        Check.sendWith(sent, 2);
        int[] then = {1, 0, 4, 11, 10, 2, 1, 0, 0, 0, 2, 2, 2, 2};
        for (int k = 0; k < then.length; k++) {
            Check.same("count " + k, sent.count(k), then[k]);
        }
    }

    // promise 49
    private static void isSound() {
        Check.same("new", new Askhouse().isSound(), true);
        Check.same("full", full().isSound(), true);
        Askhouse house = Check.pages(2);
        Check.same("whole", house.isSound(), true);
        house.question(0, 0, 3, 0);
        house.question(1, 1, 2, 1);
        house.is(0, 0, 0);
        house.check(0, 0);
        house.quota(0, 1);
        house.rim(0, 0, 7);
        house.rim(0, 2, 9);
        Check.sendWith(house, 0, 0, 1);
        Check.same("one has sent", house.isSound(), true);
        Check.sendWith(house, 1, 0, 3);
        Check.same("a full quota", house.isSound(), true);
        house.weigh(1000);
        Check.same("weighed", house.isSound(), true);
        house.dropJump(1, 0);
        Check.same("nowhere", house.isSound(), true);
        house.jump(1, NONE, 0);
        Check.same("round", house.isSound(), true);
        house.invite(2, 0, 0);
        house.call();
        house.answer(2, 0, NONE, 1);
        Check.same("begun", house.isSound(), true);
    }

    // promise 50
    private static void digest() {
        Check.same("new", new Askhouse().digest(), -7592962376091287734L);
        Check.sound("new", new Askhouse());
        Check.sound("full", full());
        Askhouse house = Check.pages(2);
        house.groups(2);
        house.question(0, 0, 3, 0);
        house.question(1, 1, 3, 1);
        house.quota(house.is(0, 0, 0), 2);
        Check.sound("nobody has sent", house);
        for (int k = 0; k < 4; k++) {
            Check.sendWith(house, k, k % 2, 7);
            Check.sound("sent", house);
        }
        house.rim(0, 0, 11);
        house.rim(1, 7, 98);
        house.weigh(1000);
        Check.sound("weighed", house);
        house.invite(5, 1, 1);
        house.call();
        house.answer(5, 0, NONE, 1);
        house.go(5);
        house.pass(4);
        house.knock();
        Check.sound("begun", house);
        long before = house.digest();
        Check.same("to ask changes nothing", house.digest(), before);
        house.knock();
        Check.same("a knock does", house.digest() == before, false);
    }
}
