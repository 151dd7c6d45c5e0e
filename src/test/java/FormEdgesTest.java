import java.util.ArrayList;
import java.util.List;

/** Boundary cases of "1. The form": limits, the bounds, codes and texts of each KIND, loops, and what is bare. */
public final class FormEdgesTest {
    private static final int NONE = -1;
    private static final int END = 9;
    private static final int MAX = Integer.MAX_VALUE;
    private static final int MIN = Integer.MIN_VALUE;

    public static void main(String[] args) {
        limits();
        kindBounds();
        sizes();
        fitsOrdered();
        fitsSeveral();
        fitsPattern();
        fitsDate();
        texts();
        loopMost();
        loopWithoutAnswer();
        loopAhead();
        loopInLoop();
        loopTaken();
        loopRefused();
        loopOrder();
        bare();
        bareAllowed();
        leaves();
        sixHundred();
        loopRows();
        Check.end("FormEdgesTest");
    }

    /** As much as there can be of everything; 350 of 600 rows fit, and all of them end. */
    static Askhouse crammed() {
        Askhouse house = new Askhouse();
        for (int k = 0; k < 6; k++) {
            house.page();
        }
        house.groups(3);
        house.question(0, 0, 5, 0);
        house.question(1, 1, 3, 1);
        house.question(2, 0, 5, 0);
        house.question(3, 4, 40, 0);
        house.question(4, 5, 0, 0);
        house.question(5, 4, 80, 0);
        house.is(0, 0, 4);
        house.is(0, 1, 0);
        house.is(2, 2, 3);
        house.is(2, 3, 3);
        house.is(1, 4, 2);
        house.inGroup(0);
        house.inGroup(2);
        int either = house.join(2, 3, false);
        int four = house.join(either, house.join(0, 1, true), true);
        int eight = house.join(four, four, false);
        house.not(eight);
        house.not(5);
        house.not(12);
        int some = house.join(5, 6, false);
        int never = house.is(1, 3, 99);
        for (int k = 0; k < 6; k++) {
            house.jump(k, never, k);
            house.jump(k, 4, k < 5 ? k + 1 : END);
            house.jump(k, NONE, k < 5 ? k + 1 : END);
        }
        house.check(0, some);
        house.check(2, either);
        house.check(5, either);
        house.check(5, some);
        for (int k = 0; k < 4; k++) {
            house.quota(some, 8 - k);
        }
        house.place(3, 0);
        house.turn(1, true);
        return house;
    }

    private static void limits() {
        Askhouse house = crammed();
        int[] due = {6, 6, 16, 55, 57, 0, 0, 0, 0, 0, 0, 0, 0, 0};
        for (int what = 0; what < due.length; what++) {
            Check.same("count " + what, house.count(what), due[what]);
        }
        int[] rows = {600, 350, 6, 350};
        for (int what = 0; what < 4; what++) {
            Check.same("rows " + what, house.rows(what), rows[what]);
        }
        Check.same("whole", house.whole(), 0);
        Check.sound("full", house);
        Check.refused("page", Check.STATE, house, house::page);
        Check.refused("question", Check.STATE, house, () -> house.question(0, 5, 0, 0));
        Check.refused("is", Check.STATE, house, () -> house.is(0, 0, 0));
        Check.refused("inGroup", Check.STATE, house, () -> house.inGroup(0));
        Check.refused("join", Check.STATE, house, () -> house.join(0, 1, false));
        Check.refused("not", Check.STATE, house, () -> house.not(0));
        for (int k = 0; k < 6; k++) {
            int page = k;
            Check.refused("jump", Check.STATE, house, () -> house.jump(page, NONE, END));
        }
        Check.refused("check", Check.STATE, house, () -> house.check(1, 0));
        Check.refused("quota", Check.STATE, house, () -> house.quota(0, 1));
        Check.refused("no group", Check.ARGUMENT, house, () -> house.groups(0));
        Check.refused("four groups", Check.ARGUMENT, house, () -> house.groups(4));
        // What takes nothing more of anything is not refused.
        Check.same("the last page, question, condition", house.show(5, 15), 58);
        Check.same("the last jump of the last page", house.dropJump(5, 2), 2);
        Check.same("and another one", house.jump(5, 15, 5), 3);
        Check.same("one group", house.groups(1), 200);
        Check.same("three groups", house.groups(3), 600);
        Check.sound("changed", house);
    }

    private static boolean isIn(int number, int from, int to) {
        return number >= from && number <= to;
    }

    /** Each KIND with A and B at their bounds, one beyond, and far away. */
    private static void kindBounds() {
        int[][] firsts = {{2, 5}, {2, 4}, {2, 3}, {-50, 50}, {0, 80}, {0, 0}, {1, 2}};
        Askhouse full = Check.pages(1);
        for (int kind = 0; kind < 7; kind++) {
            int low = firsts[kind][0];
            int high = firsts[kind][1];
            for (int a : new int[] {MIN, low - 1, low, low + 1, high - 1, high, high + 1, MAX}) {
                boolean isFar = a == MIN || a == MAX;
                int from = kind == 3 && !isFar ? a + 1 : kind == 6 ? 2 : 0;
                int to = kind == 1 && !isFar ? a : kind == 3 && !isFar ? a + 9 : kind == 6 ? 3 : 0;
                for (int b : new int[] {MIN, from - 1, from, to, to + 1, MAX}) {
                    boolean isRight = isIn(a, low, high) && isIn(b, from, to);
                    String what = "question(0, " + kind + ", " + a + ", " + b + ")";
                    int k = kind;
                    int first = a;
                    if (isRight) {
                        Askhouse house = Check.pages(1);
                        Check.same(what, house.question(0, kind, a, b), 0);
                        Check.same(what, house.line(1), "ask 0 " + kind + " " + a + " " + b + " -1 -1 0");
                        Check.same(what, house.count(4), 3);
                    } else {
                        Check.refused(what, Check.ARGUMENT, full, () -> full.question(0, k, first, b));
                    }
                }
            }
        }
    }

    /** SIZE of each KIND: by the rows, and by the codes that a rim may have. */
    private static void sizes() {
        int[][] sizes = {
            {0, 2, 0, 2}, {0, 3, 0, 3}, {0, 4, 0, 4}, {0, 5, 0, 5}, {1, 2, 0, 4}, {1, 2, 2, 4}, {1, 3, 1, 8}, {1, 4, 4, 16},
            {2, 2, 0, 2}, {2, 3, 0, 6}, {3, -50, -49, 2}, {3, -50, -41, 10}, {3, 50, 51, 2}, {3, 50, 59, 10}, {3, -4, 4, 9},
            {6, 1, 2, 2}, {6, 1, 3, 3}, {6, 2, 2, 4}, {6, 2, 3, 9}};
        for (int[] size : sizes) {
            String what = "SIZE of " + size[0] + " " + size[1] + " " + size[2];
            Askhouse house = Check.pages(1);
            house.question(0, size[0], size[1], size[2]);
            Check.same(what, house.rows(0), size[3]);
            Check.same(what + ", the last code", house.rim(0, size[3] - 1, 1), 1);
            Check.refused(what + ", one beyond", Check.ARGUMENT, house, () -> house.rim(0, size[3], 1));
            Check.refused(what + ", one below", Check.ARGUMENT, house, () -> house.rim(0, NONE, 1));
            Check.same(what + ", the last row", house.path(size[3] - 1), "09");
            Check.refused(what + ", no such row", Check.INDEX, house, () -> house.path(size[3]));
            Check.sound(what, house);
        }
        for (int kind = 4; kind < 6; kind++) {
            Askhouse house = Check.pages(1);
            house.question(0, kind, 0, 0);
            Check.same("a free one has none", house.rows(0), 1);
        }
    }

    private static Askhouse asking(int kind, int a, int b) {
        Askhouse house = Check.pages(1);
        house.question(0, kind, a, b);
        Check.begin(house, 1);
        return house;
    }

    private static void fits(Askhouse house, String what, int code, boolean isFit) {
        int before = house.stands(0, 0, NONE);
        Check.same(what + " of " + code, house.answer(0, 0, NONE, code), isFit ? 1 : -9);
        Check.same(what + " of " + code + " stands", house.stands(0, 0, NONE), isFit ? code : before);
    }

    /** The KINDS of which each code of 0 to SIZE - 1 fits. */
    private static void fitsOrdered() {
        int[][] kinds = {
            {0, 2, 0, 2}, {0, 3, 0, 3}, {0, 4, 0, 4}, {0, 5, 0, 5}, {2, 2, 0, 2}, {2, 3, 0, 6}, {3, -50, -49, 2}, {3, -50, -41, 10},
            {3, 0, 1, 2}, {3, 50, 59, 10}, {6, 1, 2, 2}, {6, 1, 3, 3}, {6, 2, 2, 4}, {6, 2, 3, 9}};
        for (int[] kind : kinds) {
            Askhouse house = asking(kind[0], kind[1], kind[2]);
            for (int code : new int[] {MIN, MAX}) {
                fits(house, "kind " + kind[0], code, false);
            }
            for (int code = -3; code < kind[3] + 4; code++) {
                fits(house, "kind " + kind[0] + " " + kind[1] + " " + kind[2], code, isIn(code, 0, kind[3] - 1));
            }
        }
    }

    private static void fitsSeveral() {
        int[] chosen = {0, 1, 1, 2, 1, 2, 2, 3, 1, 2, 2, 3, 2, 3, 3, 4};
        for (int a = 2; a <= 4; a++) {
            for (int b = 0; b <= a; b++) {
                Askhouse house = asking(1, a, b);
                int sets = a == 2 ? 4 : a == 3 ? 8 : 16;
                for (int code = -2; code < 18; code++) {
                    fits(house, "several of " + a + ", " + b + " or more", code, isIn(code, 0, sets - 1) && chosen[code] >= b);
                }
                // A row fits by the same: its code is asked.
                int fitting = 0;
                for (int code = 0; code < sets; code++) {
                    Check.same("the row of it", house.path(code), chosen[code] >= b ? "09" : "0!");
                    fitting += chosen[code] >= b ? 1 : 0;
                }
                Check.same("rows that fit", house.rows(1), fitting);
            }
        }
    }

    /** Each pattern against each text, both told sign by sign. */
    private static void fitsPattern() {
        String[] classes = {"0123456789", "abcdefghijklmnopqrstuvwxyz", "-"};
        List<String> texts = new ArrayList<>();
        List<int[]> patterns = new ArrayList<>();
        for (int k = 0; k < 256; k++) {
            String signs = "a7-z";
            texts.add("" + signs.charAt(k / 64) + signs.charAt(k / 16 % 4) + signs.charAt(k / 4 % 4) + signs.charAt(k % 4));
        }
        for (int first = 0; first < 3; first++) {
            for (int second = 0; second < 3; second++) {
                for (int third = 0; third < 3; third++) {
                    for (int last = 0; last < 3; last++) {
                        patterns.add(new int[] {first, second, third, last});
                    }
                }
            }
        }
        for (int pattern = 0; pattern < 81; pattern++) {
            Askhouse house = asking(4, pattern, 0);
            int fitting = 0;
            for (int code = 0; code < 256; code++) {
                boolean isFit = true;
                for (int k = 0; k < 4; k++) {
                    isFit = isFit && classes[patterns.get(pattern)[k]].indexOf(texts.get(code).charAt(k)) >= 0;
                }
                Check.same("text " + code + " by " + pattern, house.answer(0, 0, NONE, code), isFit ? 1 : -9);
                if (isFit) {
                    fitting++;
                    Check.same("text " + code + " by " + pattern, house.seen(0), "p0 q0=" + texts.get(code));
                }
            }
            Check.same("some text is as the pattern", fitting > 0, true);
            for (int code : new int[] {MIN, -256, -1, 256, 341, 512, MAX}) {
                Check.same("text " + code + " by " + pattern, house.answer(0, 0, NONE, code), -9);
            }
        }
    }

    private static void fitsDate() {
        int[] last = {31, 29, 31, 30, 31, 30, 31, 31, 30, 31, 30, 31};
        int days = 0;
        for (int month = -1; month <= 14; month++) {
            Askhouse house = asking(5, 0, 0);
            for (int day = 0; day < 100; day++) {
                int code = month * 100 + day;
                boolean isFit = isIn(month, 1, 12) && day >= 1 && day <= last[month - 1];
                fits(house, "date", code, isFit);
                if (isFit) {
                    days++;
                    Check.same("date", house.seen(0), "p0 q0=" + month + "/" + day);
                }
            }
        }
        Check.same("days of the year", days, 366);
        Askhouse house = asking(5, 0, 0);
        for (int code : new int[] {MIN, -101, 13131, 100101, MAX}) {
            fits(house, "date", code, false);
        }
    }

    /** Each code of each KIND as it is seen, and as it is told of a record. */
    private static void texts() {
        int[][] kinds = {
            {0, 5, 0}, {1, 2, 0}, {1, 4, 0}, {2, 2, 0}, {2, 3, 0}, {3, -50, -41}, {3, -4, 5}, {3, 50, 59}, {6, 1, 2}, {6, 1, 3},
            {6, 2, 2}, {6, 2, 3}};
        String[] texts = {
            "a b c d e", ". a b ab", ". a b ab c ac bc abc d ad bd abd cd acd bcd abcd", "ab ba", "abc acb bac bca cab cba",
            "-50 -49 -48 -47 -46 -45 -44 -43 -42 -41", "-4 -3 -2 -1 0 1 2 3 4 5", "50 51 52 53 54 55 56 57 58 59", "a b", "a b c",
            "aa ab ba bb", "aa ab ac ba bb bc ca cb cc"};
        for (int k = 0; k < kinds.length; k++) {
            String[] each = texts[k].split(" ");
            for (int code = 0; code < each.length; code++) {
                Askhouse house = asking(kinds[k][0], kinds[k][1], kinds[k][2]);
                house.question(0, 0, 2, 0);
                house.place(1, 0);
                house.answer(0, 0, NONE, code);
                Check.same("text", house.seen(0), "p0 q0=" + each[code] + " q1[" + each[code] + "]=?");
                house.answer(0, 1, NONE, 0);
                house.go(0);
                house.send(0);
                Check.same("text in the record", house.record(0), "g0 0:" + each[code] + " 1:a");
            }
        }
    }

    private static final String[] CHOSEN = {
        "", "0", "1", "01", "2", "02", "12", "012", "3", "03", "13", "013", "23", "023", "123", "0123"};

    /** Each MOST with each set of things: fewer than MOST, as many, more, none. */
    private static void loopMost() {
        for (int most = 1; most <= 4; most++) {
            Askhouse house = Check.pages(2);
            house.question(0, 1, 4, 0);
            house.question(1, 0, 2, 0);
            Check.same("loop", house.loop(1, 0, most), 16);
            Check.begin(house, 1);
            house.answer(0, 0, NONE, 15);
            house.go(0);
            for (int set = 0; set < 16; set++) {
                String what = "MOST " + most + " of " + CHOSEN[set];
                int many = Math.min(most, CHOSEN[set].length());
                Check.same(what, house.answer(0, 0, NONE, set), 1);
                StringBuilder due = new StringBuilder("p1");
                for (int k = 0; k < many; k++) {
                    due.append(" q1.").append(CHOSEN[set].charAt(k)).append("=?");
                }
                Check.same(what, house.seen(0), due.toString());
                Check.same(what + ", go", house.go(0), many == 0 ? END : -3);
                for (int option = NONE; option < 5; option++) {
                    int asked = option;
                    boolean isAsked = option != NONE && CHOSEN[set].substring(0, many).indexOf('0' + option) >= 0;
                    if (isAsked) {
                        house.answer(0, 1, option, 1);
                        Check.same(what + ", wiped", house.wipe(0, 1, option), 1);
                    } else if (set % 5 == 0) {
                        Check.refused(what + ", option " + option, Check.STATE, house, () -> house.answer(0, 1, asked, 1));
                    }
                }
                Check.same(what + ", the row", house.path(set), "019");
            }
            Check.sound("MOST " + most, house);
        }
    }

    /** The question of a loop is not asked, or its answer is wiped: what was said in the loop is kept, but does not stand. */
    private static void loopWithoutAnswer() {
        Askhouse house = Check.pages(3);
        house.question(0, 0, 2, 0);
        house.question(1, 1, 2, 0);
        house.question(2, 0, 3, 0);
        house.show(1, house.is(0, 0, 1));
        house.loop(2, 1, 4);
        Check.begin(house, 1);
        house.answer(0, 0, NONE, 1);
        house.go(0);
        house.answer(0, 1, NONE, 3);
        house.go(0);
        house.answer(0, 2, 0, 1);
        Check.same("all are said", house.answer(0, 2, 1, 2), 4);
        Check.same("not asked what to loop over", house.answer(0, 0, NONE, 0), 1);
        Check.same("so nothing in the loop", house.seen(0), "p2");
        Check.same("kept", house.ofPerson(0, 7), 4);
        Check.same("does not stand", house.stands(0, 2, 0) + house.stands(0, 2, 1), -2);
        Check.refused("not asked", Check.STATE, house, () -> house.answer(0, 2, 0, 0));
        Check.same("on to the end", house.go(0), END);
        Check.same("asked again, all stand", house.answer(0, 0, NONE, 1), 4);
        Check.same("in the end", house.seen(0), "end");
        Check.same("the answer is gone", house.wipe(0, 1, NONE), 1);
        Check.same("he is where it is missing", house.seen(0), "p1 q1=?");
        Check.same("another answer", house.answer(0, 1, NONE, 2), 3);
        Check.same("in the end with less", house.seen(0), "end");
        Check.sound("a loop", house);
        Check.same("a row by which it is not asked", house.path(0), "0129");
        Check.same("sent", house.send(0), 1);
        Check.same("record", house.record(0), "g0 0:b 1:b 2.1:c");
        Check.sound("sent", house);
    }

    /** The page with the loop comes ahead of the page with its question, and is come to again. */
    private static void loopAhead() {
        Askhouse house = new Askhouse();
        house.page();
        house.page();
        house.question(1, 1, 3, 0);
        house.question(0, 0, 2, 0);
        house.loop(0, 0, 4);
        house.jump(0, house.is(0, 3, 0), END);
        house.jump(0, NONE, 1);
        house.jump(1, NONE, 0);
        Check.begin(house, 1);
        Check.same("nothing at first", house.seen(0), "p0");
        Check.same("on", house.go(0), 1);
        Check.same("chosen", house.answer(0, 0, NONE, 5), 1);
        Check.same("back again", house.go(0), 0);
        Check.same("asked by what is chosen", house.seen(0), "p0 q1.0=? q1.2=?");
        Check.same("missing", house.go(0), -3);
        house.answer(0, 1, 0, 0);
        Check.same("said", house.answer(0, 1, 2, 1), 3);
        Check.same("to the end", house.go(0), END);
        Check.same("steps", house.ofPerson(0, 8), 3);
        for (int row = 0; row < 8; row++) {
            Check.same("row", house.path(row), "0109");
        }
        Check.same("whole", house.whole(), 0);
        Check.sound("a loop ahead", house);
    }

    /** A question in a loop has no answer with the OPTION NONE, so a loop over it asks nothing. */
    private static void loopInLoop() {
        Askhouse house = Check.pages(3);
        house.question(0, 1, 2, 0);
        house.question(1, 1, 3, 0);
        house.question(2, 0, 2, 0);
        Check.same("over a question without a loop", house.loop(2, 1, 4), 32);
        Check.begin(house, 1);
        house.answer(0, 0, NONE, 3);
        house.go(0);
        house.answer(0, 1, NONE, 6);
        house.go(0);
        Check.same("asked by it", house.seen(0), "p2 q2.1=? q2.2=?");
        house.answer(0, 2, 1, 1);
        Check.same("which is in a loop then", house.loop(1, 0, 4), 4);
        Check.same("held up there", house.seen(0), "p1 q1.0=? q1.1=?");
        house.answer(0, 1, 0, 7);
        Check.same("what is said with an option", house.answer(0, 1, 1, 7), 3);
        Check.same("is not looped over", house.seen(0), "p2");
        Check.same("nor what is kept without one", house.ofPerson(0, 7), 5);
        Check.same("on", house.go(0), END);
        Check.same("each row so", house.path(3), "0129");
        Check.same("all end", house.rows(3), 4);
        Check.sound("a loop over a loop", house);
        Check.same("no loop any more", house.loop(1, NONE, 0), 32);
        Check.same("as before", house.seen(0), "p2 q2.1=b q2.2=?");
        Check.same("what stands", house.ofPerson(0, 6), 3);
    }

    private static void loopTaken() {
        Askhouse house = Check.pages(2);
        house.question(0, 1, 2, 0);
        house.question(1, 0, 3, 0);
        Check.same("given", house.loop(1, 0, 2), 4);
        Check.begin(house, 1);
        house.answer(0, 0, NONE, 3);
        house.go(0);
        house.answer(0, 1, 0, 1);
        house.answer(0, 1, 1, 2);
        Check.same("taken away", house.loop(1, NONE, 0), 12);
        Check.same("asked once", house.seen(0), "p1 q1=?");
        Check.same("with options they are kept", house.ofPerson(0, 7) * 10 + house.ofPerson(0, 6), 31);
        Check.refused("but not asked", Check.STATE, house, () -> house.answer(0, 1, 0, 0));
        Check.same("said once", house.answer(0, 1, NONE, 0), 2);
        Check.same("given again", house.loop(1, 0, 1), 4);
        Check.same("what was said stands again", house.seen(0), "p1 q1.0=b");
        Check.same("for both", house.loop(1, 0, 2), 4);
        Check.same("what was said stands again", house.seen(0), "p1 q1.0=b q1.1=c");
        Check.same("what was said once is kept", house.ofPerson(0, 7) * 10 + house.ofPerson(0, 6), 43);
        Check.same("and does not stand", house.stands(0, 1, NONE), NONE);
        Check.same("and can be wiped", house.wipe(0, 1, NONE), 3);
        Check.same("each is counted", house.count(4), 2 + 2 + 2 + 4);
        Check.sound("given again", house);
    }

    private static void loopRefused() {
        Askhouse house = Check.pages(3);
        house.question(0, 1, 4, 2);
        house.question(1, 0, 2, 0);
        house.question(1, 4, 0, 0);
        for (int most : new int[] {MIN, -1, 1, 2, 4, 5, MAX}) {
            Check.refused("no loop, MOST " + most, Check.ARGUMENT, house, () -> house.loop(1, NONE, most));
        }
        for (int most : new int[] {MIN, -1, 0, 5, 6, MAX}) {
            Check.refused("MOST " + most, Check.ARGUMENT, house, () -> house.loop(1, 0, most));
        }
        for (int most = 1; most <= 4; most++) {
            Check.same("MOST " + most, house.loop(1, 0, most), 16);
            Check.same("its line", house.line(1), "page 0 " + most);
        }
        Check.same("no loop", house.loop(1, NONE, 0), 32);
        Check.same("still none", house.loop(1, NONE, 0), 32);
        // A question of each other KIND.
        int[][] kinds = {{0, 2, 0}, {2, 2, 0}, {3, 0, 1}, {4, 0, 0}, {5, 0, 0}, {6, 1, 2}};
        for (int[] kind : kinds) {
            Askhouse other = Check.pages(2);
            other.question(0, kind[0], kind[1], kind[2]);
            Check.refused("over kind " + kind[0], Check.ARGUMENT, other, () -> other.loop(1, 0, 1));
            other.question(1, 1, 2, 0);
            Check.same("a page with kind " + kind[0], other.loop(0, 1, 1), 4);
        }
        Check.refused("on that page", Check.ARGUMENT, house, () -> house.loop(0, 0, 4));
        // Conditions about the group, or about questions of other pages, let a page have a loop.
        house.inGroup(0);
        house.is(0, 4, 1);
        Check.same("about another page", house.loop(1, 0, 1), 16);
        Check.same("over another number of things", house.loop(1, 0, 3), 16);
        Check.same("taken away", house.loop(1, NONE, 0), 32);
        house.is(1, 0, 0);
        Check.refused("about question 1", Check.STATE, house, () -> house.loop(1, 0, 1));
        Check.same("there is none, and there will be none", house.loop(1, NONE, 0), 32);
        Check.same("a page without questions", house.loop(2, 0, 1), 32);
        Check.sound("a loop without questions", house);
    }

    /** Which refusal comes first. */
    private static void loopOrder() {
        Askhouse house = Check.pages(2);
        house.question(0, 1, 2, 0);
        house.question(1, 0, 2, 0);
        house.question(1, 1, 2, 0);
        house.rim(1, 1, 9);
        Check.refused("page before question", Check.INDEX, house, () -> house.loop(2, 1, 9));
        Check.refused("question before MOST", Check.INDEX, house, () -> house.loop(1, 3, 9));
        Check.refused("question -2 is not NONE", Check.INDEX, house, () -> house.loop(1, -2, 0));
        Check.refused("the kind before the rim", Check.ARGUMENT, house, () -> house.loop(1, 1, 1));
        Check.refused("the page before the rim", Check.ARGUMENT, house, () -> house.loop(1, 2, 1));
        Check.refused("MOST before the rim", Check.ARGUMENT, house, () -> house.loop(1, 0, 5));
        Check.refused("the rim", Check.STATE, house, () -> house.loop(1, 0, 1));
        Check.same("another page", house.loop(0, 2, 1), 8);
        house.rim(2, 3, 9);
        Check.refused("the second rim, too", Check.STATE, house, () -> house.loop(1, 0, 1));
        Check.sound("rims", house);
    }

    /** Each call about a CONDITION, a rim, or a table refuses what is bare. */
    private static void bare() {
        Askhouse house = Check.pages(2);
        house.question(0, 1, 2, 0);
        house.question(0, 4, 40, 0);
        house.question(0, 5, 0, 0);
        house.question(1, 1, 3, 0);
        house.loop(1, 0, 2);
        for (int k = 1; k <= 3; k++) {
            int bare = k;
            for (int how = 0; how < 4; how++) {
                int each = how;
                Check.refused("is", Check.STATE, house, () -> house.is(bare, each, 0));
            }
            Check.refused("is, 4", k == 3 ? Check.STATE : Check.ARGUMENT, house, () -> house.is(bare, 4, 0));
            Check.refused("rim", Check.ARGUMENT, house, () -> house.rim(bare, 0, 1));
            Check.refused("rim, no such code", Check.ARGUMENT, house, () -> house.rim(bare, -1, 0));
            Check.refused("cell, first", Check.ARGUMENT, house, () -> house.cell(bare, 0, NONE, 0, false));
            Check.refused("cell, first of two", Check.ARGUMENT, house, () -> house.cell(bare, 0, 0, 0, true));
            Check.refused("cell, second", Check.ARGUMENT, house, () -> house.cell(0, 0, bare, 0, true));
            Check.refused("cube, first", Check.ARGUMENT, house, () -> house.cube(bare, 0, 0, 0, 0, 0));
            Check.refused("cube, second", Check.ARGUMENT, house, () -> house.cube(0, 0, bare, 0, 0, 0));
            Check.refused("cube, third", Check.ARGUMENT, house, () -> house.cube(0, 0, 0, 0, bare, 0));
            Check.refused("apart, first", Check.ARGUMENT, house, () -> house.apart(bare, 0));
            Check.refused("apart, second", Check.ARGUMENT, house, () -> house.apart(0, bare));
            Check.refused("apart, both", Check.ARGUMENT, house, () -> house.apart(bare, bare));
            Check.refused("outside, first", Check.ARGUMENT, house, () -> house.outside(bare, 0));
            Check.refused("outside, second", Check.ARGUMENT, house, () -> house.outside(0, bare));
            Check.refused("outside, both", Check.ARGUMENT, house, () -> house.outside(bare, bare));
        }
        Check.same("no row is about them", house.rows(0), 4);
        Check.same("its text", house.reached(0), "g0 0 - - -");
        Check.sound("bare", house);
    }

    private static void bareAllowed() {
        Askhouse house = Check.pages(2);
        house.question(0, 1, 2, 0);
        house.question(0, 4, 40, 0);
        house.question(1, 1, 3, 0);
        house.loop(1, 0, 2);
        house.is(0, 4, 0);
        Check.same("shown by another one", house.show(1, 0), 10);
        Check.same("shown by another one", house.show(2, 0), 11);
        Check.same("placed", house.place(0, 1), 12);
        Check.same("with a place", house.place(2, 1), 13);
        Check.same("turned", house.turn(2, true), false);
        house.invite(0, 0, 4);
        house.call();
        Check.same("its choices", house.choices(0, 2), "bca");
        Check.same("seen", house.seen(0), "p0 q0[-]=?");
        house.answer(0, 0, NONE, 3);
        Check.same("a text is answered", house.answer(0, 1, NONE, 192), 2);
        Check.same("and placed", house.seen(0), "p0 q0[zaaa]=ab q1=zaaa");
        house.go(0);
        Check.same("and placed in a loop", house.seen(0), "p1 q2.0[zaaa]=? q2.1[zaaa]=?");
        Check.sound("bare ones are asked", house);
    }

    /** At most 8 QUESTIONS and GROUPS in a CONDITION, each as often as it stands there. */
    private static void leaves() {
        Askhouse house = Check.pages(1);
        house.question(0, 0, 2, 0);
        int one = house.is(0, 0, 1);
        int group = house.inGroup(0);
        int two = house.join(one, group, true);
        int four = house.join(two, two, false);
        int three = house.join(two, house.not(one), true);
        int five = house.join(three, two, true);
        Check.same("four and four are eight", house.join(four, four, true), 7);
        Check.same("five and three are eight", house.join(five, three, false), 8);
        Check.same("not eight are eight", house.not(7), 9);
        int[][] tooMany = {{7, one}, {one, 7}, {group, 8}, {five, four}, {four, five}, {7, 7}, {9, one}, {8, 9}};
        for (int[] pair : tooMany) {
            Check.refused("more than eight", Check.STATE, house, () -> house.join(pair[0], pair[1], true));
            Check.refused("more than eight", Check.STATE, house, () -> house.join(pair[0], pair[1], false));
        }
        Check.same("four and three are seven", house.join(four, three, true), 10);
        Check.same("seven and one are eight", house.join(group, 10, true), 11);
        Check.refused("seven and two are nine", Check.STATE, house, () -> house.join(two, 10, true));
        Check.sound("eight", house);
    }

    /** 600 rows, and the next number of rows that there can be: 625, 630 with groups, 640 with a loop. */
    private static void sixHundred() {
        Askhouse house = Check.pages(1);
        for (int k = 0; k < 3; k++) {
            house.question(0, 0, 5, 0);
        }
        Check.refused("625 by question", Check.STATE, house, () -> house.question(0, 0, 5, 0));
        Check.refused("1125 by question", Check.STATE, house, () -> house.question(0, 6, 2, 3));
        Check.refused("2000 by question", Check.STATE, house, () -> house.question(0, 1, 4, 4));
        Check.same("a free one", house.question(0, 5, 0, 0), 3);
        Check.same("500 by question", house.question(0, 2, 2, 0) + house.groups(2), 504);
        Check.refused("750 by groups", Check.STATE, house, () -> house.groups(3));
        Check.refused("1000 by question", Check.STATE, house, () -> house.question(0, 0, 2, 0));
        Check.sound("500", house);
        Askhouse six = Check.pages(1);
        six.question(0, 0, 5, 0);
        six.question(0, 0, 5, 0);
        six.question(0, 2, 3, 0);
        Check.same("600 by question", six.question(0, 0, 4, 0) * 1000 + six.rows(0), 3600);
        Check.same("the last row", six.path(599), "09");
        Check.refused("no row behind it", Check.INDEX, six, () -> six.path(600));
        Check.refused("1200 by groups", Check.STATE, six, () -> six.groups(2));
        Check.same("one group still", six.groups(1), 600);
        Check.sound("600", six);
        Askhouse grouped = Check.pages(1);
        grouped.question(0, 3, 0, 9);
        grouped.question(0, 3, 0, 6);
        grouped.question(0, 0, 3, 0);
        Check.refused("630 by groups", Check.STATE, grouped, () -> grouped.groups(3));
        Check.same("420 by groups", grouped.groups(2), 420);
        Askhouse looped = Check.pages(2);
        looped.question(0, 1, 4, 0);
        looped.question(1, 0, 5, 0);
        looped.loop(1, 0, 1);
        looped.question(0, 1, 3, 0);
        Check.refused("640 without the loop", Check.STATE, looped, () -> looped.loop(1, NONE, 0));
        Check.same("128 with it", looped.rows(0), 128);
        Check.same("another number of things", looped.loop(1, 0, 2), 128);
        Askhouse just = Check.pages(2);
        just.question(0, 1, 2, 0);
        just.question(1, 0, 5, 0);
        just.loop(1, 0, 1);
        just.question(0, 0, 5, 0);
        just.question(0, 2, 3, 0);
        Check.same("600 without the loop", just.loop(1, NONE, 0), 600);
        Check.sound("600 without the loop", just);
        Check.same("600 with it", just.loop(1, 0, 1) * 10 + just.question(1, 0, 5, 0), 1204);
        Check.refused("3000 without it", Check.STATE, just, () -> just.loop(1, NONE, 0));
    }

    /** Whichever page has the loop, and whichever page its question is on, what is in the loop makes no rows. */
    private static void loopRows() {
        for (int page = 0; page < 6; page++) {
            Askhouse house = Check.pages(6);
            int looped = page;
            house.question(page == 0 ? 5 : 0, 1, 2, 0);
            house.question(page, 3, 0, 9);
            Check.same("without a loop", house.groups(3), 120);
            Check.same("with a loop", house.loop(page, 0, 1), 12);
            Check.same("groups", house.groups(1) * 100 + house.groups(2), 408);
            house.question(page, 0, 5, 0);
            house.question(page == 3 ? 2 : 3, 0, 5, 0);
            Check.same("another question beside it", house.groups(3), 60);
            Check.refused("3000 rows", Check.STATE, house, () -> house.loop(looped, NONE, 0));
            Check.same("rows", house.rows(0), 60);
            Check.sound("a loop on page " + page, house);
        }
    }
}
