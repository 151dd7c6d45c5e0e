/** Boundary cases of LINES: the first and the last one, each WORD too small, too great, missing; numbers; broken TEXTS. */
public final class LinesEdgesTest {
    private static final int NONE = -1;
    private static final int END = 9;
    private static final int MAX = Integer.MAX_VALUE;
    private static final int MIN = Integer.MIN_VALUE;
    private static final String SIGNS = "0123456789- q=()&!";

    public static void main(String[] args) {
        firstAndLast();
        places();
        pageWords();
        askWords();
        askBounds();
        jumpWords();
        checkAndQuotaWords();
        groupsWords();
        blanks();
        numbers();
        conditionSigns();
        conditionValues();
        conditionQuestions();
        conditionDeep();
        neverOneTooMany();
        readAnew();
        counts();
        digests();
        Check.end("LinesEdgesTest");
    }

    private static void firstAndLast() {
        Askhouse empty = new Askhouse();
        Check.same("the only one", empty.line(0) + empty.count(3), "groups 11");
        Askhouse full = FormEdgesTest.crammed();
        Check.same("the first one", full.line(0), "page -1 0");
        Check.same("the last one", full.line(54), "groups 3");
        Check.same("of each sort the last one", full.line(5) + ";" + full.line(11) + ";" + full.line(27) + ";" + full.line(45)
            + ";" + full.line(49) + ";" + full.line(53), "page -1 0;ask 5 4 80 0 -1 -1 0;if q1>99;jump 5 -1 9;check 5 14;quota 14 5");
        Check.same("of each sort the first one", full.line(6) + ";" + full.line(12) + ";" + full.line(28) + ";" + full.line(46)
            + ";" + full.line(50), "ask 0 0 5 0 -1 -1 0;if q0=4;jump 0 15 0;check 0 14;quota 14 8");
        for (int line : new int[] {MIN, -1, 55, 56, MAX}) {
            Check.refused("line " + line, Check.INDEX, full, () -> full.line(line));
            Check.refused("spoiled line " + line, Check.INDEX, full, () -> full.spoiled(line, -1, 18));
        }
        for (int line : new int[] {MIN, -1, 1, MAX}) {
            Check.refused("line " + line, Check.INDEX, empty, () -> empty.line(line));
            Check.refused("spoiled line " + line, Check.INDEX, empty, () -> empty.spoiled(line, 0, 0));
        }
        // Whatever is made later has its line at its place.
        Askhouse house = new Askhouse();
        house.page();
        house.inGroup(2);
        house.quota(0, 1);
        house.jump(0, NONE, 0);
        house.question(0, 0, 2, 0);
        house.check(0, 0);
        house.page();
        String[] due = {"page -1 0", "page -1 0", "ask 0 0 2 0 -1 -1 0", "if g=2", "jump 0 -1 0", "check 0 0", "quota 0 1", "groups 1"};
        for (int line = 0; line < due.length; line++) {
            Check.same("line " + line, house.line(line), due[line]);
        }
        Check.sound("lines", house);
    }

    private static void places() {
        Askhouse house = LinesTest.full();
        for (int k = 0; k < house.count(3); k++) {
            int line = k;
            String told = house.line(k);
            for (int at : new int[] {MIN, -1, told.length(), told.length() + 1, MAX}) {
                Check.refused("place " + at, Check.INDEX, house, () -> house.spoiled(line, at, 0));
                Check.refused("the place before the sign", Check.INDEX, house, () -> house.spoiled(line, at, 18));
            }
            for (int sign : new int[] {MIN, -1, 18, 19, MAX}) {
                Check.refused("sign " + sign, Check.ARGUMENT, house, () -> house.spoiled(line, 0, sign));
                Check.refused("sign " + sign, Check.ARGUMENT, house, () -> house.spoiled(line, told.length() - 1, sign));
            }
            for (int at = 0; at < told.length(); at++) {
                int sign = SIGNS.indexOf(told.charAt(at));
                if (sign >= 0) {
                    Check.same("the sign that stands there", house.spoiled(k, at, sign), NONE);
                }
            }
        }
    }

    /** The faults of a line, spoiled one way after the other. */
    private static void faults(Askhouse house, String line, Object... each) {
        for (int k = 0; k < each.length; k += 2) {
            LinesTest.fault(house, line, (String) each[k], (Integer) each[k + 1]);
        }
    }

    private static void pageWords() {
        Askhouse house = Check.pages(2);
        house.question(0, 0, 2, 0);
        house.question(0, 1, 4, 0);
        house.question(1, 1, 2, 0);
        house.loop(1, 1, 3);
        faults(house, "page 1 3", "page 0 3", 1, "page 2 3", NONE, "page 3 3", 1, "page 9 3", 1, "page - 3", 1, "page q 3", 1,
            "page   3", 1, "page 1 0", 2, "page 1 1", NONE, "page 1 2", NONE, "page 1 4", NONE, "page 1 5", 2, "page 1 9", 2,
            "page 1 -", 2, "page 1  ", 2, "page 1q3", 1, "page 103", 1, "page 1-3", 1, "pag  1 3", 0, "page01 3", 0);
        faults(house, "page -1 0", "page 01 0", 2, "page  1 0", 2, "page -0 0", 1, "page -2 0", 1, "page -9 0", 1, "page -- 0", 1,
            "page -  0", 1, "page 11 0", 1, "page q1 0", 1, "page -1 1", 2, "page -1 4", 2, "page -1 5", 2, "page -1  ", 2,
            "page -1 -", 2, "page -1 0", NONE, "page -1-0", 1, "page -110", 1, "page -100", 1);
        // Of a page whose LOOP is QUESTION 2, blanked, MOST is read as the LOOP.
        Askhouse other = Check.pages(2);
        for (int k = 0; k < 3; k++) {
            other.question(0, 1, 2, 0);
        }
        other.loop(1, 2, 1);
        faults(other, "page 2 1", "page   1", 2, "page 2  ", 2, "page 0 1", NONE, "page 1 1", NONE, "page 3 1", 1);
    }

    private static void askWords() {
        Askhouse house = Check.pages(3);
        house.question(2, 0, 3, 0);
        house.question(1, 6, 2, 3);
        house.inGroup(0);
        house.inGroup(1);
        house.show(0, 1);
        house.place(0, 1);
        faults(house, "ask 2 0 3 0 1 1 0", "ask 0 0 3 0 1 1 0", NONE, "ask 3 0 3 0 1 1 0", 1, "ask - 0 3 0 1 1 0", 1,
            "ask 2 1 3 0 1 1 0", NONE, "ask 2 2 3 0 1 1 0", NONE, "ask 2 3 3 0 1 1 0", 4, "ask 2 4 3 0 1 1 0", NONE,
            "ask 2 5 3 0 1 1 0", 3, "ask 2 6 3 0 1 1 0", 3, "ask 2 7 3 0 1 1 0", 2, "ask 2 9 3 0 1 1 0", 2, "ask 2 - 3 0 1 1 0", 2,
            "ask 2 0 1 0 1 1 0", 3, "ask 2 0 2 0 1 1 0", NONE, "ask 2 0 5 0 1 1 0", NONE, "ask 2 0 6 0 1 1 0", 3,
            "ask 2 0 3 1 1 1 0", 4, "ask 2 0 3 - 1 1 0", 4, "ask 2 0 3 0 0 1 0", NONE, "ask 2 0 3 0 2 1 0", 5,
            "ask 2 0 3 0 - 1 0", 5, "ask 2 0 3 0 1 0 0", 6, "ask 2 0 3 0 1 2 0", 6, "ask 2 0 3 0 1 - 0", 6,
            "ask 2 0 3 0 1 1 1", NONE, "ask 2 0 3 0 1 1 2", 7, "ask 2 0 3 0 1 1 -", 7, "ask 2 0 3 0 1 1  ", 7,
            "ask 2 0 3 0 1   0", 6, "ask 2 0 3 0   1 0", 6, "ask 2 0 3   1 1 0", 4, "ask 2 0   0 1 1 0", 3,
            "ask 2   3 0 1 1 0", 6, "ask   0 3 0 1 1 0", 6, "as  2 0 3 0 1 1 0", 0);
        faults(house, "ask 1 6 2 3 -1 -1 0", "ask 1 6 0 3 -1 -1 0", 3, "ask 1 6 1 3 -1 -1 0", NONE, "ask 1 6 3 3 -1 -1 0", 3,
            "ask 1 6 2 1 -1 -1 0", 4, "ask 1 6 2 2 -1 -1 0", NONE, "ask 1 6 2 4 -1 -1 0", 4, "ask 1 0 2 3 -1 -1 0", 4,
            "ask 1 1 2 3 -1 -1 0", 4, "ask 1 3 2 3 -1 -1 0", NONE, "ask 1 5 2 3 -1 -1 0", 3, "ask 1 4 2 3 -1 -1 0", 4,
            "ask 1 6 2 3 -2 -1 0", 5, "ask 1 6 2 3  1 -1 0", NONE, "ask 1 6 2 3 -1 -2 0", 6, "ask 1 6 2 3 -1  1 0", 6,
            "ask 1 6 2 3 -0 -1 0", NONE, "ask 1 6 2 3 -1 -0 0", NONE, "ask 1 6 2 3 01 -1 0", NONE, "ask 1 6 2 3 11 -1 0", 5);
    }

    /** A and B of each KIND at their bounds, one digit after the other. */
    private static void askBounds() {
        int[][] kinds = {
            {0, 2, 0}, {0, 5, 0}, {1, 2, 2}, {1, 4, 4}, {1, 3, 0}, {2, 2, 0}, {2, 3, 0}, {3, 1, 9}, {3, 0, 1}, {3, 8, 9}, {4, 0, 0},
            {4, 9, 0}, {5, 0, 0}, {6, 1, 2}, {6, 2, 3}};
        for (int[] kind : kinds) {
            Askhouse house = Check.pages(1);
            house.question(0, kind[0], kind[1], kind[2]);
            for (int digit = 0; digit < 10; digit++) {
                int a = kind[0] == 0 && digit >= 2 && digit <= 5 || kind[0] == 1 && digit >= 2 && digit <= 4
                    || kind[0] == 2 && digit >= 2 && digit <= 3 || kind[0] == 3 || kind[0] == 4 || kind[0] == 5 && digit == 0
                    || kind[0] == 6 && digit >= 1 && digit <= 2 ? digit : NONE;
                Check.same("A " + digit + " of " + kind[0], house.spoiled(1, 8, digit),
                    a < 0 ? 3 : isB(kind[0], digit, kind[2]) ? NONE : 4);
                Check.same("B " + digit + " of " + kind[0], house.spoiled(1, 10, digit),
                    isB(kind[0], kind[1], digit) ? NONE : 4);
            }
        }
        Askhouse least = Check.pages(1);
        least.question(0, 3, -50, -49);
        least.question(0, 3, 50, 59);
        least.question(0, 4, 80, 0);
        least.question(0, 3, 41, 50);
        faults(least, "ask 0 3 -50 -49 -1 -1 0", "ask 0 3 -51 -49 -1 -1 0", 3,
            "ask 0 3 -50 -41 -1 -1 0", NONE, "ask 0 3 -50 -40 -1 -1 0", 4, "ask 0 3 -50 -59 -1 -1 0", 4,
            "ask 0 3 -50  49 -1 -1 0", 4, "ask 0 3  50 -49 -1 -1 0", 4, "ask 0 3 150 -49 -1 -1 0", 3, "ask 0 3 050 -49 -1 -1 0", 4,
            "ask 0 3 -40 -49 -1 -1 0", 4, "ask 0 3 -50 -48 -1 -1 0", NONE, "ask 0 3 -5  -49 -1 -1 0", 4);
        faults(least, "ask 0 3 50 59 -1 -1 0", "ask 0 3 51 59 -1 -1 0", 3, "ask 0 3 50 51 -1 -1 0", NONE, "ask 0 3 50 50 -1 -1 0", 4,
            "ask 0 3 40 59 -1 -1 0", 4, "ask 0 3 50 69 -1 -1 0", 4, "ask 0 3 60 59 -1 -1 0", 3, "ask 0 3 50  9 -1 -1 0", 4);
        faults(least, "ask 0 4 80 0 -1 -1 0", "ask 0 4 81 0 -1 -1 0", 3, "ask 0 4 90 0 -1 -1 0", 3, "ask 0 4 70 0 -1 -1 0", NONE,
            "ask 0 4 -0 0 -1 -1 0", NONE, "ask 0 4 00 0 -1 -1 0", NONE, "ask 0 4 8- 0 -1 -1 0", 3);
        faults(least, "ask 0 3 41 50 -1 -1 0", "ask 0 3 40 50 -1 -1 0", 4, "ask 0 3 49 50 -1 -1 0", NONE,
            "ask 0 3 42 50 -1 -1 0", NONE, "ask 0 3 01 50 -1 -1 0", 4);
    }

    private static boolean isB(int kind, int a, int b) {
        switch (kind) {
            case 1: return b <= a;
            case 3: return b > a && b <= a + 9;
            case 6: return b == 2 || b == 3;
            default: return b == 0;
        }
    }

    private static void jumpWords() {
        Askhouse house = new Askhouse();
        for (int k = 0; k < 3; k++) {
            house.page();
        }
        for (int k = 0; k < 11; k++) {
            house.inGroup(0);
        }
        house.jump(1, 10, 2);
        house.jump(2, NONE, END);
        house.jump(0, 2, 0);
        faults(house, "jump 1 10 2", "jump 0 10 2", NONE, "jump 2 10 2", NONE, "jump 3 10 2", 1, "jump 9 10 2", 1, "jump - 10 2", 1,
            "jump   10 2", 1, "jump 1 11 2", 2, "jump 1 20 2", 2, "jump 1 00 2", NONE, "jump 1 -0 2", NONE, "jump 1 -0 2", NONE,
            "jump 1 1- 2", 2, "jump 1 1  2", NONE, "jump 1  0 2", NONE, "jump 1 10 0", NONE, "jump 1 10 3", 3, "jump 1 10 8", 3,
            "jump 1 10 9", NONE, "jump 1 10 -", 3, "jump 1 10  ", 3, "jump 1 1002", 2, "jump 1010 2", 1, "jum  1 10 2", 0);
        faults(house, "jump 2 -1 9", "jump 2 -2 9", 2, "jump 2 -9 9", 2, "jump 2 -0 9", NONE, "jump 2  1 9", NONE, "jump 2 11 9", 2,
            "jump 2 -1 7", 3, "jump 2 -1 2", NONE, "jump 2 -119", 2, "jump 2--1 9", 1);
        faults(house, "jump 0 2 0", "jump   2 0", 3, "jump 0   0", 3, "jump 0 2  ", 3, "jump 002 0", 3, "jump 0 200", 2);
    }

    private static void checkAndQuotaWords() {
        Askhouse house = new Askhouse();
        for (int k = 0; k < 3; k++) {
            house.page();
        }
        for (int k = 0; k < 12; k++) {
            house.inGroup(0);
        }
        house.check(2, 11);
        house.quota(10, 8);
        house.check(0, 2);
        house.quota(0, 1);
        faults(house, "check 2 11", "check 0 11", NONE, "check 3 11", 1, "check - 11", 1, "check   11", 1, "check 2 10", NONE,
            "check 2 12", 2, "check 2 21", 2, "check 2 -1", 2, "check 2 01", NONE, "check 2 1-", 2, "check 2 1 ", NONE,
            "check 2  1", NONE, "check 2011", 1, "check02 11", 0, "chec  2 11", 0);
        faults(house, "check 0 2", "check   2", 2, "check 0  ", 2, "check 0 -", 2, "check 002", 2, "check 0 9", NONE, "check 0-2", 1);
        faults(house, "quota 10 8", "quota 11 8", NONE, "quota 12 8", 1, "quota -0 8", NONE, "quota  0 8", NONE, "quota 1  8", NONE,
            "quota 1- 8", 1, "quota 10 0", 2, "quota 10 1", NONE, "quota 10 9", 2, "quota 10 -", 2, "quota 10  ", 2, "quota 1008", 1,
            "quota -0 8", NONE);
        faults(house, "quota 0 1", "quota   1", 2, "quota - 1", 1, "quota 9 1", NONE, "quota 001", 2, "quota 0 0", 2, "quota 0 8", NONE,
            "quota 0 9", 2, "quot- 0 1", 0);
        // With fewer conditions a single digit is too great.
        Askhouse few = Check.pages(1);
        few.inGroup(0);
        few.check(0, 0);
        few.quota(0, 1);
        faults(few, "check 0 0", "check 0 1", 2, "check 1 0", 1, "check 0 9", 2);
        faults(few, "quota 0 1", "quota 1 1", 1, "quota 9 1", 1);
    }

    private static void groupsWords() {
        for (int many = 1; many <= 3; many++) {
            Askhouse house = new Askhouse();
            house.groups(many);
            String line = "groups " + many;
            for (int digit = 0; digit < 10; digit++) {
                faults(house, line, "groups " + digit, digit >= 1 && digit <= 3 ? NONE : 1);
            }
            faults(house, line, "groups -", 1, "groups  ", 1, "groups q", 1, "groups!" + many, 0, "group  " + many, 0,
                " roups " + many, 0, "groups" + 1 + many, 0);
        }
    }

    /** Blanks in front, behind, and side by side do nothing by themselves. */
    private static void blanks() {
        Askhouse house = new Askhouse();
        for (int k = 0; k < 11; k++) {
            house.inGroup(0);
        }
        house.quota(10, 8);
        house.not(0);
        faults(house, "if g=0", " f g=0", 0, "i  g=0", 0, "if  =0", 1, "if g 0", 1, "if g= ", 1);
        faults(house, "if !g=0", "if  g=0", NONE, "if !g= ", 1, "if ! =0", 1);
        faults(house, "quota 10 8", "quota 1  8", NONE, "quota  0 8", NONE, "quota 10  ", 2, " uota 10 8", 0, "quot  10 8", 0);
        house.is(house.page() + house.question(0, 0, 2, 0), 0, 12);
        faults(house, "if q0=12", "if q0=1 ", NONE, "if q0= 2", 1, "if q0 12", 1, "if q =12", 1, "if  0=12", 1);
    }

    /** A number has 1 to 3 digits, with "-" or not. */
    private static void numbers() {
        Askhouse house = Check.pages(4);
        for (int k = 0; k < 11; k++) {
            house.inGroup(0);
        }
        house.question(3, 3, 10, 15);
        house.question(0, 3, 0, 9);
        house.question(0, 3, -12, -9);
        house.show(1, 10);
        house.place(1, 0);
        // Two digits are three with the sign between: A 009, B 10, SHOW 0, PLACE 0, and TURNED is missing.
        faults(house, "ask 0 3 0 9 10 0 0", "ask 0 3 009 10 0 0", 7, "ask 0 3 019 10 0 0", 4, "ask 0 3 059 10 0 0", 3,
            "ask 0 3 0-9 10 0 0", 3, "ask 003 0 9 10 0 0", 3, "ask 013 0 9 10 0 0", 1, "ask 0 300 9 10 0 0", 2,
            "ask 0 3 0 9010 0 0", 4, "ask 0 3 0 9 1000 0", 5, "ask 0 3 0 9 10 000", 7, "ask 0 3 0 9 10 010", 6,
            "ask 0 3 - 9 10 0 0", 3, "ask 0 3 0 - 10 0 0", 4, "ask 0 3 0 9 1- 0 0", 5);
        // Five digits, and three with "-".
        faults(house, "ask 3 3 10 15 -1 -1 0", "ask 3 3 10015 -1 -1 0", 3, "ask 3 3010 15 -1 -1 0", 2, "ask 303 10 15 -1 -1 0", 1,
            "ask 3 3 10 150-1 -1 0", 4, "ask 3 3 10 15 -10-1 0", 5, "ask 3 3 10 15 -1 -100", 6, "ask 3 3 10 15 -1--1 0", 5);
        faults(house, "ask 0 3 -12 -9 -1 -1 0", "ask 0 3 012 -9 -1 -1 0", 4, "ask 0 3 -02 -9 -1 -1 0", 4, "ask 0 3 --2 -9 -1 -1 0", 3,
            "ask 0 3 -1- -9 -1 -1 0", 3, "ask 0 3 -12 09 -1 -1 0", 4, "ask 0 3 - 2 -9 -1 -1 0", 3, "ask 0 3 -12 -  -1 -1 0", 4,
            "ask 0 3 -18 -9 -1 -1 0", NONE, "ask 0 3 -10 -9 -1 -1 0", NONE, "ask 0 30-12 -9 -1 -1 0", 2);
    }

    /** Each sign of a TEXT with each sign in its place: where it is still one, and everywhere else it is broken. */
    private static void conditionSigns() {
        Askhouse house = Check.pages(1);
        house.question(0, 0, 2, 0);
        house.question(0, 0, 2, 0);
        int turned = house.not(house.inGroup(2));
        house.join(house.is(0, 0, 1), turned, false);
        int line = 1 + 2 + 3;
        String text = "if (q0=1|!g=2)";
        Check.same("the text", house.line(line), text);
        // What may stand at each place: the blank ahead is no part of it.
        String[] right = {"(", "q", "01", "=", "0123456789", "&", "!", "g", "=", "0123456789", ")"};
        for (int at = 3; at < text.length(); at++) {
            for (int sign = 0; sign < 18; sign++) {
                boolean isRight = right[at - 3].indexOf(SIGNS.charAt(sign)) >= 0;
                Check.same("at " + at + " the sign " + SIGNS.charAt(sign), house.spoiled(line, at, sign), isRight ? NONE : 1);
            }
        }
        for (int sign = 0; sign < 18; sign++) {
            Check.same("i", house.spoiled(line, 0, sign), 0);
            Check.same("f", house.spoiled(line, 1, sign), 0);
            Check.same("the blank", house.spoiled(line, 2, sign), sign == 11 ? NONE : 0);
        }
        Check.sound("condition", house);
    }

    /** A value has 1 or 2 digits; how great it is does not matter. */
    private static void conditionValues() {
        Askhouse house = Check.pages(1);
        house.question(0, 1, 2, 0);
        int ten = house.is(0, 1, 10);
        house.join(ten, house.inGroup(0), true);
        house.is(0, 4, 99);
        faults(house, "if q0#10", "if q0#90", NONE, "if q0#00", NONE, "if q0#1 ", NONE, "if q0# 0", 1, "if q0#-0", 1, "if q0#1-", 1,
            "if q0#1!", 1, "if q0#q0", 1, "if q0010", 1, "if q0=10", NONE, "if q0&10", 1);
        faults(house, "if g=0", "if g=9", NONE, "if g=-", 1, "if g= ", 1, "if g=!", 1, "if g-0", 1);
        faults(house, "if (q0#10&g=0)", "if (q0#1 &g=0)", 1, "if (q0#1&&g=0)", 1, "if (q0#100g=0)", 1, "if (q0#10&g=00", 1,
            "if (q0#90&g=0)", NONE, "if (q0#10&g=3)", NONE);
        faults(house, "if q0~99", "if q0~09", NONE, "if q0=99", NONE, "if q0~9 ", NONE);
    }

    /** A QUESTION is one digit, of any question of the form, bare or not. */
    private static void conditionQuestions() {
        for (int many = 1; many <= 6; many++) {
            Askhouse house = Check.pages(1);
            house.question(0, 0, 2, 0);
            house.is(0, 2, 5);
            for (int k = 1; k < many; k++) {
                house.question(0, 5, 0, 0);
            }
            for (int digit = 0; digit < 10; digit++) {
                faults(house, "if q0<5", "if q" + digit + "<5", digit < many ? NONE : 1);
            }
            faults(house, "if q0<5", "if q-<5", 1, "if q <5", 1, "if qq<5", 1, "if q!<5", 1, "if q=<5", 1);
        }
    }

    private static void conditionDeep() {
        Askhouse house = new Askhouse();
        house.inGroup(1);
        for (int k = 0; k < 7; k++) {
            house.join(k, 0, k % 2 == 0);
        }
        for (int k = 7; k < 15; k++) {
            house.not(k);
        }
        String nested = "((((((((g=1&g=1)|g=1)&g=1)|g=1)&g=1)|g=1)&g=1)".substring(1);
        Check.same("eight groups", house.line(7), "if " + nested);
        Check.same("not, eight times", house.line(15), "if !!!!!!!!" + nested);
        String line = house.line(15);
        for (int at = 3; at < line.length(); at++) {
            char stands = line.charAt(at);
            Check.same("a blank at " + at, house.spoiled(15, at, 11), at == 3 ? NONE : 1);
            Check.same("! at " + at, house.spoiled(15, at, 17), stands == '!' ? NONE : 1);
            Check.same("( at " + at, house.spoiled(15, at, 14), stands == '(' ? NONE : 1);
            Check.same(") at " + at, house.spoiled(15, at, 15), stands == ')' ? NONE : 1);
            Check.same("& at " + at, house.spoiled(15, at, 16), stands == '&' || stands == '|' ? NONE : 1);
            Check.same("7 at " + at, house.spoiled(15, at, 7), stands == '1' ? NONE : 1);
        }
        Check.sound("deep", house);
    }

    /** No sign makes one WORD too many of a line: a blank parts no word in two that are both right. */
    private static void neverOneTooMany() {
        for (Askhouse house : new Askhouse[] {LinesTest.full(), FormEdgesTest.crammed()}) {
            for (int line = 0; line < house.count(3); line++) {
                String told = house.line(line);
                int words = told.split(" ").length;
                for (int at = 0; at < told.length(); at++) {
                    Check.same("a blank in " + told, house.spoiled(line, at, 11) < words, true);
                }
            }
        }
    }

    /** A form read from the lines has the same lines, and each sign at each place is as wrong there. */
    private static void readAnew() {
        Askhouse bounds = Check.pages(4);
        for (int k = 0; k < 11; k++) {
            bounds.inGroup(k % 3);
        }
        bounds.question(3, 3, -50, -49);
        bounds.question(0, 3, 50, 51);
        bounds.question(0, 4, 80, 0);
        bounds.question(1, 1, 4, 4);
        bounds.question(2, 6, 1, 2);
        bounds.show(1, 10);
        bounds.loop(2, 3, 4);
        bounds.place(4, 2);
        bounds.jump(2, 9, 3);
        bounds.check(3, 10);
        bounds.quota(10, 1);
        for (Askhouse house : new Askhouse[] {new Askhouse(), LinesTest.full(), bounds, FormEdgesTest.crammed()}) {
            Oracle oracle = read(house);
            Check.same("how many lines", oracle.lines().size(), house.count(3));
            for (int line = 0; line < house.count(3); line++) {
                String told = house.line(line);
                Check.same("the line", oracle.line(line), told);
                for (int at = 0; at < told.length(); at++) {
                    for (int sign = 0; sign < 18; sign++) {
                        Check.same(told + " at " + at + " with " + sign, house.spoiled(line, at, sign),
                            oracle.spoiled(line, at, sign));
                    }
                }
            }
            Check.sound("read", house);
        }
    }

    private static Oracle read(Askhouse house) {
        Oracle oracle = new Oracle();
        for (int line = 0; line < house.count(3); line++) {
            String[] words = house.line(line).split(" ");
            int[] numbers = new int[words.length];
            for (int k = 1; k < words.length && !words[0].equals("if"); k++) {
                numbers[k] = Integer.parseInt(words[k]);
            }
            switch (words[0]) {
                case "page": {
                    Oracle.P page = new Oracle.P();
                    page.loop = numbers[1];
                    page.most = numbers[2];
                    oracle.pages.add(page);
                    break;
                }
                case "ask": {
                    Oracle.Q question = new Oracle.Q();
                    question.page = numbers[1];
                    question.kind = numbers[2];
                    question.a = numbers[3];
                    question.b = numbers[4];
                    question.show = numbers[5];
                    question.place = numbers[6];
                    question.turned = numbers[7] == 1;
                    oracle.questions.add(question);
                    break;
                }
                case "if": {
                    Oracle.C condition = new Oracle.C();
                    condition.text = words[1];
                    oracle.conditions.add(condition);
                    break;
                }
                case "jump":
                    oracle.pages.get(numbers[1]).jumps.add(new int[] {numbers[2], numbers[3]});
                    break;
                case "check":
                    oracle.checks.add(new int[] {numbers[1], numbers[2]});
                    break;
                case "quota":
                    oracle.quotas.add(new int[] {numbers[1], numbers[2], 0});
                    break;
                default:
                    oracle.groups = numbers[1];
                    break;
            }
        }
        return oracle;
    }

    private static void counts() {
        Askhouse house = FormEdgesTest.crammed();
        for (int what : new int[] {MIN, -1, 14, 15, MAX}) {
            Check.refused("count " + what, Check.ARGUMENT, house, () -> house.count(what));
        }
        Askhouse few = Check.pages(1);
        few.inGroup(0);
        few.quota(0, 8);
        few.quota(0, 8);
        Check.sendWith(few, 3);
        int[] due = {1, 0, 1, 6, 5, 1, 0, 0, 0, 0, 1, 1, 0, 0};
        for (int what = 0; what < 14; what++) {
            Check.same("count " + what, few.count(what), due[what]);
        }
    }

    /** What is refused, or answers below 0, or just looks, leaves the digest as it is; each other call here changes it. */
    private static void digests() {
        Askhouse house = Check.pages(2);
        house.question(0, 0, 2, 0);
        house.question(1, 1, 2, 1);
        Check.begin(house, 2);
        long digest = house.digest();
        Check.same("does not fit", house.answer(0, 0, NONE, 2), -9);
        Check.same("missing", house.go(0), -2);
        Check.same("nobody", house.call(), NONE);
        Check.same("not IDLE so long", house.remind(1), 0);
        house.line(0);
        house.spoiled(0, 0, 0);
        house.path(0);
        house.reached(1);
        house.choices(0, 0);
        house.outside(0, 1);
        house.apart(0, 1);
        Check.same("the same", house.digest(), digest);
        long[] seen = new long[9];
        for (int k = 0; k < seen.length; k++) {
            switch (k) {
                case 0: house.knock(); break;
                case 1: house.pass(1); break;
                case 2: house.answer(0, 0, NONE, 0); break;
                case 3: house.go(0); break;
                case 4: house.invite(7, 0, 1); break;
                case 5: house.remind(0); break;
                case 6: house.rim(0, 0, 1); break;
                case 7: house.turn(0, false); break;
                default: house.page(); break;
            }
            seen[k] = house.digest();
            Check.same("changed by " + k, seen[k] != (k == 0 ? digest : seen[k - 1]), true);
            Check.sound("changed by " + k, house);
        }
    }
}
