/** Promises 33 to 37: whether a form is whole, and its rows. */
public final class WholeTest {
    private static final int NONE = -1;
    private static final int END = 9;

    public static void main(String[] args) {
        whole();
        wholeOrder();
        lost();
        reached();
        rows();
        rowOrder();
        path();
        pathTwenty();
        fits();
        bare();
        changes();
        Check.end("WholeTest");
    }

    // promise 33
    private static void whole() {
        Askhouse house = new Askhouse();
        Check.same("without pages", house.whole(), 3);
        house.page();
        Check.same("no jump", house.whole(), 1);
        house.jump(0, NONE, END);
        Check.same("whole", house.whole(), 0);
        house.page();
        Check.same("a page is not come to, so nothing is lost there", house.whole(), 3);
        house.question(0, 0, 2, 0);
        house.is(0, 0, 1);
        house.dropJump(0, 0);
        house.jump(0, 0, 1);
        house.jump(0, NONE, END);
        Check.same("nowhere from page 1", house.whole(), 1);
        house.jump(1, NONE, 1);
        Check.same("round on page 1", house.whole(), 2);
        house.dropJump(1, 0);
        house.jump(1, NONE, END);
        Check.same("whole again", house.whole(), 0);
    }

    private static void wholeOrder() {
        Askhouse house = new Askhouse();
        house.page();
        house.page();
        house.page();
        house.question(0, 0, 3, 0);
        house.jump(0, house.is(0, 0, 0), 0);
        house.jump(0, house.is(0, 0, 1), 1);
        house.jump(0, NONE, END);
        Check.same("nowhere ahead of round", house.whole(), 1);
        house.jump(1, NONE, END);
        Check.same("round ahead of not come to", house.whole(), 2);
        house.dropJump(0, 0);
        Check.same("page 2 is not come to", house.whole(), 3);
        house.jump(1, house.is(0, 0, 1), 2);
        Check.same("behind the first jump", house.whole(), 3);
        house.dropJump(1, 0);
        house.jump(2, NONE, END);
        Check.same("come to", house.whole(), 0);
        // A row that does not fit comes to nothing.
        house.check(0, house.not(1));
        Check.same("just a row that does not fit would come to it", house.whole(), 3);
    }

    // promise 34
    private static void lost() {
        Askhouse house = new Askhouse();
        Check.refused("what -1", Check.ARGUMENT, house, () -> house.lost(-1));
        Check.refused("what 2", Check.ARGUMENT, house, () -> house.lost(2));
        Check.same("without pages", house.lost(0) + house.lost(1), "nonenone");
        house.page();
        Check.same("nowhere", house.lost(0) + " " + house.lost(1), "g0 none");
        house.groups(2);
        house.question(0, 0, 3, 0);
        house.question(0, 4, 0, 0);
        house.question(0, 1, 2, 1);
        house.jump(0, house.join(house.is(0, 0, 0), house.inGroup(0), false), END);
        house.jump(0, house.is(2, 0, 2), 0);
        Check.same("the first nowhere", house.lost(0), "g1 1 - 1");
        Check.same("the first round", house.lost(1), "g1 1 - 2");
        house.jump(0, NONE, END);
        Check.same("nowhere no more", house.lost(0), "none");
        Check.same("round still", house.lost(1), "g1 1 - 2");
    }

    // promise 35
    private static void reached() {
        Askhouse house = new Askhouse();
        Check.refused("no page", Check.INDEX, house, () -> house.reached(0));
        house.page();
        house.page();
        Check.refused("page -1", Check.INDEX, house, () -> house.reached(-1));
        Check.refused("page 2", Check.INDEX, house, () -> house.reached(2));
        Check.refused("END is no page", Check.INDEX, house, () -> house.reached(END));
        house.question(0, 0, 3, 0);
        house.question(1, 1, 2, 2);
        house.jump(0, house.is(0, 3, 1), 1);
        house.jump(0, NONE, END);
        house.jump(1, NONE, END);
        Check.same("the first row that fits comes to page 0", house.reached(0), "g0 0 0");
        Check.same("page 1, with a code that fits there", house.reached(1), "g0 1 3");
        house.dropJump(0, 0);
        Check.same("none", house.reached(1), "none");
        house.check(0, house.is(0, 0, 2));
        Check.same("a check", house.reached(0), "g0 2 0");
    }

    // promise 36
    private static void rows() {
        Askhouse house = new Askhouse();
        Check.refused("what -1", Check.ARGUMENT, house, () -> house.rows(-1));
        Check.refused("what 4", Check.ARGUMENT, house, () -> house.rows(4));
        counts(house, "new", 1, 0, 0, 0);
        house.groups(3);
        counts(house, "groups", 3, 0, 0, 0);
        house.page();
        counts(house, "a page", 3, 3, 0, 0);
        house.jump(0, NONE, END);
        counts(house, "to the end", 3, 3, 1, 3);
        house.groups(1);
        house.question(0, 1, 3, 2);
        counts(house, "four of eight fit", 8, 4, 1, 4);
        house.page();
        house.jump(1, NONE, END);
        house.dropJump(0, 0);
        house.jump(0, house.is(0, 0, 7), 1);
        house.jump(0, house.is(0, 0, 3), END);
        counts(house, "two of four end", 8, 4, 2, 2);
        house.jump(0, NONE, 0);
        counts(house, "two go round", 8, 4, 2, 2);
        house.check(1, house.not(0));
        counts(house, "a check", 8, 3, 1, 1);
    }

    private static void counts(Askhouse house, String when, int... due) {
        for (int what = 0; what < 4; what++) {
            Check.same("rows " + what + " " + when, house.rows(what), due[what]);
        }
    }

    private static void rowOrder() {
        Askhouse house = Check.pages(1);
        house.groups(2);
        house.question(0, 0, 2, 0);
        house.question(0, 5, 0, 0);
        house.question(0, 0, 3, 0);
        int twelve = house.rows(0);
        String[] texts = {"g0 0 - 0", "g0 0 - 1", "g0 0 - 2", "g0 1 - 0", "g0 1 - 1", "g0 1 - 2", "g1 0 - 0", "g1 0 - 1",
            "g1 0 - 2", "g1 1 - 0", "g1 1 - 1", "g1 1 - 2"};
        Check.same("twelve", twelve, 12);
        for (int k = 0; k < twelve; k++) {
            // Of all rows just this one is let through, so it is the first one to come to page 0.
            Askhouse one = Check.pages(1);
            one.groups(2);
            one.question(0, 0, 2, 0);
            one.question(0, 5, 0, 0);
            one.question(0, 0, 3, 0);
            int group = one.inGroup(k / 6);
            int first = one.is(0, 0, k / 3 % 2);
            int second = one.is(2, 0, k % 3);
            one.check(0, one.join(one.join(group, first, true), second, true));
            Check.same("the row", one.reached(0), texts[k]);
            for (int row = 0; row < twelve; row++) {
                Check.same("row " + row, one.path(row), row == k ? "09" : "0!");
            }
        }
    }

    // promise 37
    private static void path() {
        Askhouse house = new Askhouse();
        Check.refused("row -1", Check.INDEX, house, () -> house.path(-1));
        Check.refused("row 1", Check.INDEX, house, () -> house.path(1));
        Check.same("without pages", house.path(0), "!");
        for (int k = 0; k < 4; k++) {
            house.page();
        }
        Check.same("nowhere", house.path(0), "0");
        house.question(0, 1, 2, 1);
        house.question(3, 0, 2, 0);
        house.jump(0, house.is(0, 4, 1), 1);
        house.jump(0, NONE, 3);
        house.jump(1, NONE, 3);
        house.jump(3, NONE, END);
        house.check(3, house.is(1, 0, 0));
        String[] due = {"0!", "0!", "039", "03!", "0139", "013!", "0139", "013!"};
        for (int k = 0; k < due.length; k++) {
            Check.same("path " + k, house.path(k), due[k]);
        }
        Check.refused("row 8", Check.INDEX, house, () -> house.path(8));
    }

    private static void pathTwenty() {
        Askhouse house = new Askhouse();
        house.page();
        house.page();
        house.jump(0, NONE, 1);
        house.jump(1, NONE, 0);
        Check.same("20 steps", house.path(0), "010101010101010101010");
        Check.same("round", house.lost(1), "g0");
        // What the page that the 20th step comes to is like: at first nothing special.
        String all = "012301230123012301230";
        Check.same("plain", counting(false).path(0), all);
        // Its checks do not matter any more; one that is not so at the 16th step does.
        Askhouse checked = counting(false);
        checked.check(0, checked.not(checked.join(1, 2, true)));
        Check.same("a check at the 20th step", checked.path(0), all);
        Check.same("it is round", checked.lost(1), "g0 0 0 0");
        Askhouse earlier = counting(false);
        earlier.check(0, earlier.not(earlier.join(0, 2, true)));
        Check.same("a check at the 16th step", earlier.path(0), "01230123012301230!");
        // Nor do its jumps.
        Askhouse jumping = counting(true);
        Check.same("no jump at the 20th step", jumping.path(0), all);
        Check.same("it is round, not nowhere", jumping.lost(0) + " " + jumping.lost(1), "none g0 0 0 0");
        // But its questions do: there question 3 is asked for the first time.
        Askhouse asked = counting(false);
        asked.question(0, 1, 2, 1);
        asked.show(3, asked.join(1, 2, true));
        Check.same("a code that does not fit", asked.path(0), all + "!");
        Check.same("one that fits", asked.path(1), all);
        Check.same("the first round", asked.lost(1), "g0 0 0 0 1");
        Check.same("how many fit", asked.rows(1), 24);
        // To be in the end with the 20th step is not round.
        Askhouse ending = counting(false);
        ending.page();
        ending.dropJump(3, 0);
        ending.jump(3, ending.not(ending.join(0, 2, true)), 0);
        ending.jump(3, NONE, END);
        Check.same("the end with the 20th step", ending.path(0), "01230123012301230123" + "9");
        Check.same("20 steps", ending.rows(2), 20);
        Check.same("not round", ending.lost(1), "none");
        // A page that no row comes to but by its 20th step is come to.
        Askhouse late = counting(false);
        late.page();
        late.dropJump(3, 0);
        late.jump(3, late.not(late.join(0, 2, true)), 0);
        late.jump(3, NONE, 4);
        Check.same("page 4 by the 20th step", late.path(0), "01230123012301230123" + "4");
        Check.same("it is come to", late.reached(4), "g0 0 0 0");
        Check.same("but round", late.whole(), 2);
        // A code that does not fit there, of the very first question.
        Askhouse first = new Askhouse();
        count(first, 1);
        first.dropJump(3, 0);
        first.jump(3, first.not(first.join(0, 2, true)), 0);
        first.jump(3, NONE, 4);
        Check.same("question 0 does not fit", first.path(0), "01230123012301230123" + "4!");
        Check.same("question 0 fits", first.path(8), "01230123012301230123" + "4");
        Check.same("the first round", first.lost(1), "g0 1 0 0 0");
    }

    /**
     * Pages 0 to 3 in a ring. On page 0 the questions 0 to 2 stand as the digits, in base 2, of how often page 0 was come
     * to: CONDITIONS 0 to 2 tell so. That is 6 with the 20th step, for the first time both question 1 and question 2.
     * When stopped, page 0 has no jump that is so then.
     */
    static Askhouse counting(boolean isStopped) {
        Askhouse house = new Askhouse();
        count(house, 0);
        if (isStopped) {
            house.dropJump(0, 0);
            house.jump(0, house.not(house.join(1, 2, true)), 1);
        }
        return house;
    }

    /** The ring of counting, its questions behind so many that are on a page 4 of their own (where one must be chosen). */
    private static void count(Askhouse house, int ahead) {
        for (int k = 0; k < (ahead > 0 ? 5 : 4); k++) {
            house.page();
        }
        for (int k = 0; k < ahead; k++) {
            house.question(4, 1, 2, 1);
        }
        for (int k = 0; k < 3; k++) {
            house.question(0, 0, 2, 0);
        }
        for (int k = 0; k < 3; k++) {
            house.is(ahead + k, 3, 0);
        }
        house.show(ahead, house.not(0));
        int either = house.join(0, 1, false);
        int neither = house.not(either);
        house.show(ahead + 1, house.join(house.join(0, 1, true), neither, false));
        int notBoth = house.not(house.join(2, neither, true));
        house.show(ahead + 2, house.join(house.join(2, neither, false), notBoth, true));
        for (int k = 0; k < 4; k++) {
            house.jump(k, NONE, (k + 1) % 4);
        }
    }

    private static void fits() {
        // Codes that are not asked need not fit.
        Askhouse house = Check.pages(2);
        house.question(0, 0, 2, 0);
        house.question(1, 1, 2, 2);
        house.show(1, house.is(0, 0, 1));
        String[] due = {"019", "019", "019", "019", "01!", "01!", "01!", "019"};
        for (int k = 0; k < due.length; k++) {
            Check.same("path " + k, house.path(k), due[k]);
        }
        Check.same("five fit", house.rows(1), 5);
        // A page with a check that is not so, and no jump: the row does not fit, so it leads not nowhere.
        Askhouse checked = new Askhouse();
        checked.page();
        checked.check(0, checked.inGroup(1));
        Check.same("not so", checked.path(0) + checked.lost(0), "0!none");
        checked.groups(2);
        Check.same("so, and nowhere", checked.path(1) + checked.lost(0), "0g1");
        Check.same("whole", checked.whole(), 1);
    }

    private static void bare() {
        // Bare questions are answered, and their answers fit: texts, dates, and what is asked in a loop.
        int[][] kinds = {{0, 2, 0}, {1, 4, 3}, {1, 2, 2}, {1, 4, 4}, {1, 3, 0}, {2, 3, 0}, {3, 5, 7}, {4, 15, 0}, {4, 80, 0}, {5, 0, 0}, {6, 2, 2}};
        for (int[] kind : kinds) {
            Askhouse house = Check.pages(2);
            house.question(0, 1, 2, 0);
            house.question(1, kind[0], kind[1], kind[2]);
            house.loop(1, 0, 2);
            for (int row = 0; row < 4; row++) {
                Check.same("kind " + kind[0] + " in a loop", house.path(row), "019");
            }
            Check.same("its text", house.reached(1), "g0 0 -");
            Check.same("all fit", house.rows(1), 4);
        }
    }

    private static void changes() {
        // What the rows come to is told anew after each change of the form.
        Askhouse house = Check.pages(2);
        house.question(0, 0, 2, 0);
        house.question(1, 0, 2, 0);
        Check.same("whole", house.whole(), 0);
        house.dropJump(1, 0);
        Check.same("a jump less", house.whole(), 1);
        house.jump(1, house.is(1, 0, 0), END);
        Check.same("a jump that is so at times", house.lost(0), "g0 0 1");
        house.check(1, 0);
        Check.same("a check", house.whole(), 0);
        house.show(1, house.is(0, 0, 1));
        Check.same("nothing asked, nothing so", house.rows(1), 1);
        house.show(1, NONE);
        Check.same("asked", house.rows(1), 2);
        Check.same("two groups", house.groups(2), 8);
        Check.same("rows", house.rows(1), 4);
    }
}
