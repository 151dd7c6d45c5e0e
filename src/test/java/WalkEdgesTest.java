/** Boundary cases of "2. Walks": where a walk begins, pages come to again, jumps, twenty steps, rows, wholeness. */
public final class WalkEdgesTest {
    private static final int NONE = -1;
    private static final int END = 9;

    public static void main(String[] args) {
        withoutPages();
        firstPage();
        firstJump();
        leftBy();
        stoodBefore();
        stoodBeforeLater();
        loopAgain();
        twentyToTheEnd();
        twentyToAPage();
        twentyRound();
        rowsWithoutPages();
        rowFitsByCode();
        rowFitsByCheck();
        nowhereOrNot();
        wholeOrder();
        wholeGroups();
        wholeWithoutRows();
        Check.end("WalkEdgesTest");
    }

    /** Without PAGES somebody is on PAGE 0 all the same, and is asked nothing. */
    private static void withoutPages() {
        Askhouse house = new Askhouse();
        house.inGroup(0);
        Check.begin(house, 1);
        house.pass(3);
        Check.same("where he is", house.seen(0), "p0");
        int[] due = {2, 0, 0, 0, 0, 3, 0, 0, 0};
        for (int what = 0; what < due.length; what++) {
            Check.same("ofPerson " + what, house.ofPerson(0, what), due[what]);
        }
        Check.same("no jump", house.go(0), -40);
        Check.same("which does not count", house.ofPerson(0, 5), 3);
        Check.refused("back", Check.STATE, house, () -> house.back(0));
        Check.refused("send", Check.STATE, house, () -> house.send(0));
        Check.refused("answer", Check.INDEX, house, () -> house.answer(0, 0, NONE, 0));
        Check.refused("check", Check.INDEX, house, () -> house.check(0, 0));
        Check.refused("jump", Check.INDEX, house, () -> house.jump(0, NONE, END));
        Check.sound("without pages", house);
        // The page that is made is where he is.
        house.page();
        Check.same("on the first page", house.seen(0), "p0");
        house.question(0, 0, 2, 0);
        Check.same("asked", house.seen(0), "p0 q0=?");
        house.jump(0, NONE, END);
        Check.same("missing", house.go(0), -2);
        Check.same("answered", house.answer(0, 0, NONE, 1), 1);
        Check.same("on", house.go(0), END);
        Check.sound("with a page", house);
    }

    /** A walk begins on PAGE 0, whichever pages lead where. */
    private static void firstPage() {
        Askhouse house = new Askhouse();
        for (int k = 0; k < 6; k++) {
            house.page();
        }
        house.question(5, 0, 2, 0);
        house.jump(5, NONE, END);
        house.jump(0, NONE, 5);
        Check.begin(house, 1);
        Check.same("page 0", house.seen(0), "p0");
        Check.same("page 5", house.go(0), 5);
        Check.same("seen", house.seen(0), "p5 q0=?");
        house.answer(0, 0, NONE, 0);
        Check.same("end", house.go(0), END);
        Check.same("row", house.path(0), "059");
        Check.same("page 4 is not come to", house.reached(4), "none");
        Check.same("page 5 is", house.reached(5), "g0 0");
    }

    private static void firstJump() {
        Askhouse house = new Askhouse();
        for (int k = 0; k < 3; k++) {
            house.page();
        }
        house.question(0, 1, 3, 0);
        for (int k = 0; k < 3; k++) {
            house.is(0, 4, k);
        }
        house.jump(0, 0, 1);
        house.jump(0, 1, 2);
        house.jump(0, 2, END);
        house.jump(1, NONE, END);
        house.jump(2, NONE, END);
        paths(house, "0", "019", "029", "019", "09", "019", "029", "019");
        Check.same("the first one is gone", house.dropJump(0, 0), 2);
        paths(house, "0", "0", "029", "029", "09", "09", "029", "029");
        Check.same("behind the others", house.jump(0, 0, 1), 3);
        paths(house, "0", "019", "029", "029", "09", "09", "029", "029");
        house.dropJump(0, 2);
        Check.same("always", house.jump(0, NONE, 1), 3);
        paths(house, "019", "019", "029", "029", "09", "09", "029", "029");
        house.dropJump(0, 1);
        house.dropJump(0, 0);
        house.jump(0, 1, 2);
        paths(house, "019", "019", "019", "019", "019", "019", "019", "019");
        Check.same("not come to", house.whole(), 3);
    }

    private static void paths(Askhouse house, String... due) {
        for (int row = 0; row < due.length; row++) {
            Check.same("path " + row, house.path(row), due[row]);
        }
        Check.sound("paths", house);
    }

    /** What is asked without an answer comes ahead of a check, a check ahead of the jumps; by number each. */
    private static void leftBy() {
        Askhouse house = new Askhouse();
        house.page();
        house.page();
        for (int k = 0; k < 6; k++) {
            house.question(k % 2, 0, 2, 0);
        }
        house.is(0, 0, 1);
        house.is(4, 0, 1);
        house.check(1, 0);
        house.check(0, 1);
        house.check(1, 0);
        house.check(0, 0);
        Check.begin(house, 1);
        Check.same("question 0", house.go(0), -2);
        house.answer(0, 4, NONE, 0);
        Check.same("question 0 still", house.go(0), -2);
        house.answer(0, 0, NONE, 0);
        Check.same("question 2", house.go(0), -4);
        house.wipe(0, 4, NONE);
        house.answer(0, 2, NONE, 0);
        Check.same("question 4", house.go(0), -6);
        house.answer(0, 4, NONE, 0);
        Check.same("check 1", house.go(0), -21);
        house.answer(0, 4, NONE, 1);
        Check.same("check 3", house.go(0), -23);
        house.answer(0, 0, NONE, 1);
        Check.same("no jump", house.go(0), -40);
        house.jump(0, NONE, 1);
        Check.same("on", house.go(0), 1);
        Check.same("question 1", house.go(0), -3);
        house.answer(0, 1, NONE, 0);
        house.answer(0, 3, NONE, 0);
        Check.same("question 5", house.go(0), -7);
        house.answer(0, 5, NONE, 0);
        Check.same("no jump", house.go(0), -40);
        house.answer(0, 0, NONE, 0);
        Check.same("held up on page 0", house.seen(0), "p0 q0=a q2=a q4=b");
        Check.same("check 3", house.go(0), -23);
        Check.sound("held up", house);
    }

    /** What of a question stood from before stands still as its own SHOW is looked at, and not after that. */
    private static void stoodBefore() {
        Askhouse house = new Askhouse();
        house.page();
        house.question(0, 0, 2, 0);
        house.question(0, 0, 3, 0);
        house.show(0, house.not(house.is(0, 3, 0)));
        house.show(1, house.not(0));
        house.jump(0, NONE, 0);
        Check.begin(house, 1);
        Check.same("asked at first", house.seen(0), "p0 q0=? q1=?");
        house.answer(0, 1, NONE, 2);
        Check.same("answered, so question 1 is not", house.answer(0, 0, NONE, 1), 1);
        Check.same("seen", house.seen(0), "p0 q0=b");
        house.go(0);
        Check.same("not asked any more, so question 1 is", house.seen(0), "p0 q1=c");
        Check.same("what stands", house.stands(0, 0, NONE) * 10 + house.stands(0, 1, NONE), -8);
        Check.refused("not asked", Check.STATE, house, () -> house.answer(0, 0, NONE, 0));
        house.go(0);
        Check.same("asked again", house.seen(0), "p0 q0=b");
        Check.same("what stands", house.stands(0, 0, NONE) * 10 + house.stands(0, 1, NONE), 9);
        Check.sound("again", house);
    }

    /** A question behind it on its page stands from before, too, as a SHOW is looked at. */
    private static void stoodBeforeLater() {
        Askhouse house = new Askhouse();
        house.page();
        house.page();
        house.question(0, 0, 3, 0);
        house.question(0, 0, 2, 0);
        house.show(0, house.is(1, 0, 1));
        house.show(1, house.not(house.is(0, 3, 0)));
        house.jump(0, NONE, 1);
        house.jump(1, NONE, 0);
        Check.begin(house, 1);
        Check.same("the first time", house.seen(0), "p0 q1=?");
        Check.same("answered: not looked at any more", house.answer(0, 1, NONE, 1), 1);
        Check.same("the first time", house.seen(0), "p0 q1=b");
        house.go(0);
        Check.same("it stands on another page", house.stands(0, 1, NONE), 1);
        Check.same("the second time", house.go(0), 0);
        Check.same("question 0 by what stood", house.seen(0), "p0 q0=? q1=b");
        Check.same("answered, it takes question 1 away", house.answer(0, 0, NONE, 2), 1);
        Check.same("seen", house.seen(0), "p0 q0=c");
        Check.same("kept", house.ofPerson(0, 7), 2);
        house.go(0);
        Check.same("the third time", house.go(0), 0);
        Check.same("as the first time", house.seen(0), "p0 q1=b");
        house.go(0);
        Check.same("the fourth time", house.go(0), 0);
        Check.same("as the second time", house.seen(0), "p0 q0=c");
        Check.sound("again", house);
    }

    /** A page with a loop is come to again, as nothing is chosen any more. */
    private static void loopAgain() {
        Askhouse house = new Askhouse();
        house.page();
        house.page();
        house.question(0, 1, 2, 0);
        house.question(1, 0, 2, 0);
        house.is(0, 3, 0);
        house.show(0, house.not(0));
        house.loop(1, 0, 2);
        house.jump(0, NONE, 1);
        house.jump(1, 0, 0);
        house.jump(1, NONE, END);
        Check.begin(house, 1);
        house.answer(0, 0, NONE, 3);
        house.go(0);
        house.answer(0, 1, 0, 1);
        Check.same("three stand", house.answer(0, 1, 1, 0), 3);
        Check.same("to page 0 again", house.go(0), 0);
        Check.same("not asked any more", house.seen(0), "p0");
        Check.same("what was said in the loop stands still", house.ofPerson(0, 6), 2);
        Check.same("and is asked still", house.answer(0, 1, 0, 0), 2);
        Check.same("to page 1 again", house.go(0), 1);
        Check.same("nothing chosen", house.seen(0), "p1");
        Check.same("nothing stands", house.ofPerson(0, 6) * 10 + house.ofPerson(0, 7), 3);
        Check.refused("not asked any more", Check.STATE, house, () -> house.answer(0, 1, 0, 0));
        Check.same("to the end", house.go(0), END);
        Check.same("steps", house.ofPerson(0, 8), 4);
        for (int row = 0; row < 4; row++) {
            Check.same("row", house.path(row), "01019");
        }
        Check.sound("again", house);
        house.send(0);
        Check.same("an empty record", house.record(0), "g0");
    }

    /** Goes on by one, answering with 0 what is asked on the way. */
    private static int step(Askhouse house) {
        int way = house.go(0);
        while (way <= -2 && way > -8) {
            house.answer(0, -2 - way, NONE, 0);
            way = house.go(0);
        }
        return way;
    }

    /** The ring of WholeTest, left by page 3 for a target with the twentieth step. */
    private static Askhouse twenty(int target) {
        Askhouse house = WholeTest.counting(false);
        if (target != END) {
            house.page();
        }
        house.dropJump(3, 0);
        house.jump(3, house.not(house.join(0, 2, true)), 0);
        house.jump(3, NONE, target);
        Check.begin(house, 1);
        for (int k = 1; k < 20; k++) {
            Check.same("step " + k, step(house), k % 4);
        }
        Check.same("19 steps", house.ofPerson(0, 8), 19);
        return house;
    }

    private static void twentyToTheEnd() {
        Askhouse house = twenty(END);
        Check.refused("not in the end", Check.STATE, house, () -> house.send(0));
        Check.same("the twentieth step", house.go(0), END);
        Check.same("20 steps", house.ofPerson(0, 8), 20);
        Check.refused("no further", Check.STATE, house, () -> house.go(0));
        Check.same("back", house.back(0), 3);
        Check.same("once more", house.go(0), END);
        Check.sound("in the end", house);
        Check.same("whole", house.whole(), 0);
        Check.same("20 steps", house.rows(2), 20);
        Check.same("sent", house.send(0), 1);
        Check.same("record", house.record(0), "g0 0:a 2:a");
        Check.sound("sent", house);
    }

    private static void twentyToAPage() {
        Askhouse house = twenty(4);
        house.jump(4, NONE, END);
        Check.same("the twentieth step", house.go(0), 4);
        Check.same("where he is", house.ofPerson(0, 1) * 100 + house.ofPerson(0, 8), 420);
        Check.refused("no further", Check.STATE, house, () -> house.go(0));
        Check.refused("not in the end", Check.STATE, house, () -> house.send(0));
        house.question(4, 0, 2, 0);
        Check.same("asked there", house.seen(0), "p4 q3=?");
        Check.refused("no further, whatever is missing", Check.STATE, house, () -> house.go(0));
        Check.same("answered", house.answer(0, 3, NONE, 1), 3);
        Check.same("seen", house.seen(0), "p4 q3=b");
        Check.refused("no further, though nothing is missing", Check.STATE, house, () -> house.go(0));
        Check.same("a row, too, goes no further", house.lost(1), "g0 0 0 0 0");
        Check.same("round", house.whole(), 2);
        Check.same("come to", house.reached(4), "g0 0 0 0 0");
        Check.same("no row ends", house.rows(3) * 100 + house.rows(2), 0);
        Check.sound("by the twentieth step", house);
        Check.same("back", house.back(0), 3);
        Check.same("not asked there", house.stands(0, 3, NONE), NONE);
    }

    private static void twentyRound() {
        Askhouse house = new Askhouse();
        house.page();
        house.question(0, 0, 2, 0);
        house.jump(0, NONE, 0);
        Check.begin(house, 1);
        house.answer(0, 0, NONE, 1);
        for (int k = 1; k <= 20; k++) {
            Check.same("round", house.go(0), 0);
        }
        Check.refused("20 steps", Check.STATE, house, () -> house.go(0));
        house.jump(0, NONE, END);
        Check.refused("20 steps still", Check.STATE, house, () -> house.go(0));
        house.dropJump(0, 0);
        Check.same("in the end by the first step", house.seen(0) + house.ofPerson(0, 8), "end1");
        house.dropJump(0, 0);
        Check.same("no step left of twenty", house.seen(0) + house.ofPerson(0, 8), "p0 q0=b0");
        Check.refused("no step back", Check.STATE, house, () -> house.back(0));
        Check.same("no jump", house.go(0), -40);
        house.jump(0, NONE, 0);
        Check.same("twenty again", house.ofPerson(0, 8), 20);
        Check.same("the wiped answer holds him up", house.wipe(0, 0, NONE) + house.ofPerson(0, 8), 0);
        Check.same("twenty again", house.answer(0, 0, NONE, 0) * 100 + house.ofPerson(0, 8), 120);
        Check.sound("round", house);
    }

    private static void rowsWithoutPages() {
        Askhouse house = new Askhouse();
        house.groups(3);
        for (int row = 0; row < 3; row++) {
            Check.same("does not fit", house.path(row), "!");
        }
        Check.refused("row 3", Check.INDEX, house, () -> house.path(3));
        int[] due = {3, 0, 0, 0};
        for (int what = 0; what < 4; what++) {
            Check.same("rows " + what, house.rows(what), due[what]);
        }
        Check.same("lost", house.lost(0) + house.lost(1) + house.whole(), "nonenone3");
        Check.refused("no page", Check.INDEX, house, () -> house.reached(0));
        Check.sound("without pages", house);
    }

    /** Just a code that is asked must fit; when it does not, the walk ends there. */
    private static void rowFitsByCode() {
        Askhouse house = new Askhouse();
        house.page();
        house.page();
        house.page();
        house.question(0, 0, 2, 0);
        house.question(1, 1, 2, 2);
        house.question(2, 1, 2, 1);
        int second = house.is(0, 0, 1);
        house.jump(0, second, 2);
        house.jump(0, NONE, 1);
        house.jump(1, NONE, END);
        house.jump(2, NONE, END);
        for (int row = 0; row < 32; row++) {
            int first = row / 4 % 4;
            String due = row < 16 ? first == 3 ? "019" : "01!" : row % 4 > 0 ? "029" : "02!";
            Check.same("row " + row, house.path(row), due);
        }
        Check.same("how many fit", house.rows(1), 4 + 12);
        Check.same("page 1 is come to by one that fits", house.reached(1), "g0 0 3 0");
        Check.same("page 2", house.reached(2), "g0 1 0 1");
        Check.same("whole", house.whole(), 0);
        // Not shown, it need not fit.
        house.show(1, second);
        Check.same("not shown", house.path(0), "019");
        Check.same("how many fit", house.rows(1), 16 + 12);
        Check.sound("codes", house);
    }

    /** A check of a page come to again: so the first time, not so the second one. */
    private static void rowFitsByCheck() {
        Askhouse house = new Askhouse();
        house.page();
        house.page();
        house.question(0, 0, 2, 0);
        house.is(0, 3, 0);
        house.show(0, house.not(0));
        house.jump(0, NONE, 1);
        house.jump(1, 0, 0);
        house.jump(1, NONE, END);
        Check.same("without a check", house.path(0), "01019");
        house.check(1, 0);
        Check.same("not so the second time", house.path(0), "0101!");
        Check.same("no row fits", house.rows(1) + house.reached(0) + house.whole(), "0none3");
        house.check(0, 0);
        Check.same("not so ahead of that", house.path(1), "010!");
        Check.sound("checks", house);
        // The check of another page does not matter.
        Askhouse other = Check.pages(2);
        other.page();
        other.check(2, other.inGroup(2));
        Check.same("not walked to", other.path(0), "019");
    }

    /** A row that does not fit leads neither nowhere nor round, also where there is no jump. */
    private static void nowhereOrNot() {
        Askhouse house = new Askhouse();
        house.page();
        house.question(0, 1, 2, 1);
        house.check(0, house.is(0, 3, 2));
        String[] due = {"0!", "0!", "0", "0"};
        paths(house, due);
        Check.same("the first that fits", house.lost(0), "g0 2");
        house.jump(0, house.is(0, 0, 3), 0);
        paths(house, "0!", "0!", "0", "000000000000000000000");
        Check.same("nowhere and round", house.lost(0) + " " + house.lost(1), "g0 2 g0 3");
        house.jump(0, NONE, END);
        paths(house, "0!", "0!", "09", "000000000000000000000");
        Check.same("round", house.lost(0) + " " + house.lost(1) + " " + house.whole(), "none g0 3 2");
        house.dropJump(0, 0);
        paths(house, "0!", "0!", "09", "09");
        Check.same("whole", house.lost(0) + " " + house.lost(1) + " " + house.whole(), "none none 0");
    }

    /** Nowhere comes ahead of round, round ahead of a page that is not come to. */
    private static void wholeOrder() {
        for (int k = 0; k < 8; k++) {
            boolean isNowhere = k % 2 == 1;
            boolean isRound = k / 2 % 2 == 1;
            boolean isMissed = k / 4 == 1;
            Askhouse house = new Askhouse();
            for (int page = 0; page < 4; page++) {
                house.page();
            }
            house.question(0, 0, 4, 0);
            house.jump(0, house.is(0, 0, 1), 1);
            house.jump(0, house.is(0, 0, 2), 2);
            house.jump(0, NONE, isMissed ? END : 3);
            if (!isNowhere) {
                house.jump(1, NONE, END);
            }
            house.jump(2, NONE, isRound ? 2 : END);
            house.jump(3, NONE, END);
            Check.same("whole " + k, house.whole(), isNowhere ? 1 : isRound ? 2 : isMissed ? 3 : 0);
            Check.same("nowhere " + k, house.lost(0), isNowhere ? "g0 1" : "none");
            Check.same("round " + k, house.lost(1), isRound ? "g0 2" : "none");
            Check.same("missed " + k, house.reached(3), isMissed ? "none" : "g0 0");
            Check.same("ends " + k, house.rows(3), 4 - (isNowhere ? 1 : 0) - (isRound ? 1 : 0));
            Check.sound("whole " + k, house);
        }
    }

    /** A row of the last group alone leads nowhere, or comes to a page. */
    private static void wholeGroups() {
        Askhouse house = new Askhouse();
        house.page();
        house.page();
        house.question(0, 0, 2, 0);
        int last = house.join(house.inGroup(2), house.is(0, 0, 1), true);
        house.jump(0, last, 1);
        house.jump(0, NONE, END);
        Check.same("two groups", house.groups(2) + house.whole(), 7);
        Check.same("three groups: page 1 is come to", house.groups(3) + house.whole(), 7);
        Check.same("by the very last row", house.lost(0) + house.reached(1), "g2 1g2 1");
        house.jump(1, NONE, 1);
        Check.same("round", house.whole() + house.lost(0) + house.lost(1), "2noneg2 1");
        house.dropJump(1, 0);
        house.jump(1, NONE, END);
        Check.same("whole", house.whole(), 0);
        Check.same("steps", house.rows(2) * 10 + house.rows(3), 26);
        Check.sound("groups", house);
    }

    /** No row fits: PAGE 0 is not come to, so a form of one page is not whole; nothing is lost in it either. */
    private static void wholeWithoutRows() {
        for (int pages = 1; pages <= 6; pages++) {
            Askhouse house = Check.pages(pages);
            house.question(0, 1, 2, 2);
            Check.same("one of four fits", house.rows(1) * 10 + house.whole(), 10);
            house.check(0, house.not(house.is(0, 3, 0)));
            Check.same("none fits", house.rows(1), 0);
            Check.same("not come to", house.whole(), 3);
            Check.same("by none", house.reached(0) + house.reached(pages - 1), "nonenone");
            Check.same("nothing lost", house.lost(0) + house.lost(1), "nonenone");
            Check.same("nothing ends", house.rows(2) + house.rows(3), 0);
            Check.sound("no row fits", house);
            // Without a jump, too: a row that does not fit leads not nowhere.
            house.dropJump(0, 0);
            Check.same("without a jump", house.whole() + house.lost(0), "3none");
            Check.same("its path", house.path(3), "0!");
        }
    }
}
