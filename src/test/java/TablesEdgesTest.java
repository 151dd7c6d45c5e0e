/** Boundary cases of "4. Tables": nobody, codes nobody has, weights and how close they are, and what is told outside. */
public final class TablesEdgesTest {
    private static final int NONE = -1;
    private static final int MAX = Integer.MAX_VALUE;
    private static final int MIN = Integer.MIN_VALUE;

    public static void main(String[] args) {
        nobody();
        notSent();
        noSuchCode();
        unfitCode();
        sameQuestion();
        widest();
        weightsOfAll();
        rims();
        rimOrder();
        rimTargets();
        closeness();
        closeAfterTwo();
        closeBounds();
        closeJust();
        weighWithoutAnswers();
        leastBounds();
        outsideLeast();
        outsideNone();
        outsideHidden();
        outsideEmptyLines();
        eachTable();
        Check.end("TablesEdgesTest");
    }

    /** One page with questions of so many choices each; person after person has sent these codes. */
    private static Askhouse sent(int[] choices, int[]... codes) {
        Askhouse house = Check.pages(1);
        for (int many : choices) {
            house.question(0, 0, many, 0);
        }
        for (int person = 0; person < codes.length; person++) {
            Check.sendWith(house, person, codes[person]);
        }
        return house;
    }

    private static String weights(Askhouse house, int many) {
        StringBuilder told = new StringBuilder();
        for (int person = 0; person < many; person++) {
            told.append(person > 0 ? " " : "").append(house.weight(person));
        }
        return told.toString();
    }

    /** Nobody has sent: each table is there, and empty. */
    private static void nobody() {
        int[][] kinds = {{0, 2, 0}, {1, 2, 1}, {2, 3, 0}, {3, -5, 4}, {6, 2, 3}};
        String[] zeros = {"0,0", "0,0,0,0", "0,0,0,0,0,0", "0,0,0,0,0,0,0,0,0,0", "0,0,0,0,0,0,0,0,0"};
        for (int k = 0; k < kinds.length; k++) {
            Askhouse house = Check.pages(1);
            house.question(0, 0, 2, 0);
            house.question(0, kinds[k][0], kinds[k][1], kinds[k][2]);
            for (int code : new int[] {MIN, -1, 0, 1, 15, MAX}) {
                Check.same("cell", house.cell(1, code, NONE, 0, false) + house.cell(1, code, 0, 0, true), "00");
                Check.same("cube", house.cube(1, code, 0, 0, 1, code), 0);
            }
            Check.same("apart", house.apart(0, 1) + house.apart(1, 1), "00");
            for (int least = 1; least <= 8; least++) {
                house.least(least);
                Check.same("outside", house.outside(0, 1), zeros[k] + ";" + zeros[k]);
            }
            Check.same("the other way", house.outside(1, 0), zeros[k].replace(',', ';').replace("0", "0,0"));
            house.rim(1, 0, 99);
            house.rim(0, 1, 1);
            Check.same("close at once", house.weigh(1) + house.weigh(1000), 0);
            Check.sound("nobody", house);
        }
    }

    /** Who has just begun, is in the end, or was turned away, is in no table. */
    private static void notSent() {
        Askhouse house = Check.pages(1);
        house.question(0, 0, 2, 0);
        house.question(0, 0, 2, 0);
        house.quota(house.is(0, 0, 1), 1);
        Check.sendWith(house, 0, 1, 1);
        Check.same("turned away", Check.sendWith(house, 1, 1, 1), -2);
        house.invite(2, 0, 0);
        house.call();
        house.answer(2, 0, NONE, 1);
        house.answer(2, 1, NONE, 1);
        Check.same("begun", house.cell(0, 1, NONE, 0, false), "1");
        house.go(2);
        Check.same("in the end", house.cell(0, 1, 1, 1, true), "1");
        Check.same("cube", house.cube(0, 1, 1, 1, 0, 1), 1);
        Check.same("apart", house.apart(0, 1), "0");
        house.least(1);
        Check.same("outside", house.outside(0, 1), "0,0;0,1");
        house.rim(0, 1, 1);
        Check.same("weighed", house.weigh(1000), 0);
        Check.sound("not sent", house);
    }

    private static void noSuchCode() {
        Askhouse house = sent(new int[] {2, 3}, new int[] {0, 2}, new int[] {1, 2});
        for (int code : new int[] {MIN, -2, -1, 2, 3, 16, MAX}) {
            Check.same("first", house.cell(0, code, NONE, 0, false), "0");
            Check.same("first of two", house.cell(0, code, 1, 2, true), "0");
            Check.same("first of three", house.cube(0, code, 1, 2, 0, 0), 0);
            Check.same("third", house.cube(0, 0, 1, 2, 0, code), 0);
            Check.same("not looked at", house.cell(1, 2, NONE, code, false), "2");
        }
        for (int code : new int[] {MIN, -1, 0, 1, 3, MAX}) {
            Check.same("second", house.cell(0, 0, 1, code, false), "0");
            Check.same("second of three", house.cube(0, 0, 1, code, 0, 0), 0);
        }
        Check.same("a code that all have", house.cell(1, 2, NONE, 0, true), "2");
    }

    /** A code that does not fit is one of the codes all the same: it has a line, may have a target, and nobody has it. */
    private static void unfitCode() {
        Askhouse house = Check.pages(1);
        house.question(0, 1, 2, 2);
        house.question(0, 0, 2, 0);
        Check.sendWith(house, 0, 3, 1);
        house.least(1);
        Check.same("outside", house.outside(0, 1), "0,0;0,0;0,0;0,1");
        Check.same("the other way", house.outside(1, 0), "0,0,0,0;0,0,0,1");
        Check.same("cell", house.cell(0, 0, NONE, 0, false), "0");
        Check.same("a target", house.rim(0, 0, 5), 1);
        Check.same("close at once", house.weigh(1000), 0);
        Check.same("apart", house.apart(0, 1), "0");
        Check.sound("unfit", house);
    }

    /** The first question the same as the second one. */
    private static void sameQuestion() {
        Askhouse house = sent(new int[] {3, 2}, new int[] {0, 1}, new int[] {0, 0}, new int[] {1, 0}, new int[] {0, 1});
        Check.same("the same code", house.cell(0, 0, 0, 0, false), "3");
        Check.same("two codes of one", house.cell(0, 0, 0, 1, false), "0");
        Check.same("thrice", house.cube(0, 1, 0, 1, 0, 1), 1);
        Check.same("two codes of one", house.cube(0, 1, 1, 0, 0, 0), 0);
        Check.same("apart: n times the codes less one", house.apart(0, 0), "4");
        Check.same("apart: n times the codes less one", house.apart(1, 1), "4");
        Check.refused("outside", Check.ARGUMENT, house, () -> house.outside(0, 0));
        Check.refused("outside", Check.ARGUMENT, house, () -> house.outside(1, 1));
        Check.same("three codes", sent(new int[] {3}, new int[] {0}, new int[] {1}, new int[] {2}).apart(0, 0), "6");
        Check.same("one code", sent(new int[] {3}, new int[] {1}, new int[] {1}).apart(0, 0), "0");
    }

    /** The widest table that there can be: sixteen codes by sixteen, the last one of each among them. */
    private static void widest() {
        Askhouse house = Check.pages(1);
        house.question(0, 1, 4, 0);
        house.question(0, 1, 4, 0);
        for (int person = 0; person < 8; person++) {
            Check.sendWith(house, person, person < 4 ? 15 : 0, person < 4 ? 15 : 0);
        }
        StringBuilder line = new StringBuilder("0");
        StringBuilder zeros = new StringBuilder(";0");
        for (int k = 1; k < 16; k++) {
            line.append(",0");
            zeros.append(",0");
        }
        StringBuilder due = new StringBuilder("4").append(line.substring(1));
        for (int k = 1; k < 15; k++) {
            due.append(zeros);
        }
        due.append(';').append(line.substring(0, 30)).append('4');
        Check.same("outside", house.outside(0, 1), due.toString());
        Check.same("apart", house.apart(0, 1), "8");
        Check.same("cell", house.cell(0, 15, 1, 15, false), "4");
        Check.same("rim of the last code", house.rim(1, 15, 99), 1);
        Check.same("weighed", house.weigh(1000) + house.weight(0) + " " + house.weight(4), "199/4 1");
        Check.sound("widest", house);
    }

    /** Weights before weighing, after it, of one who sends later, and after weighing again. */
    private static void weightsOfAll() {
        Askhouse house = sent(new int[] {2, 2}, new int[] {0, 0}, new int[] {0, 1}, new int[] {1, 0});
        Check.same("before", weights(house, 3), "1 1 1");
        Check.same("before", house.cell(0, 0, NONE, 0, true), "2");
        house.rim(0, 0, 7);
        Check.same("a target alone does nothing", weights(house, 3), "1 1 1");
        Check.same("weighed", house.weigh(1000), 1);
        Check.same("after", weights(house, 3), "7/2 7/2 1");
        Check.same("sums", house.cell(0, 0, NONE, 0, true) + " " + house.cell(1, 0, NONE, 0, true), "7 9/2");
        Check.same("without weights", house.cell(0, 0, NONE, 0, false), "2");
        Check.same("another target does nothing yet", house.rim(0, 0, 8) + weights(house, 3), "17/2 7/2 1");
        Check.sendWith(house, 3, 0, 1);
        Check.same("later", weights(house, 4), "7/2 7/2 1 1");
        Check.same("sums", house.cell(0, 0, NONE, 0, true) + " " + house.cell(0, 0, 1, 1, true), "8 9/2");
        Check.sound("later", house);
        Check.same("what weighing says begins at 1", house.weigh(1000), 1);
        Check.same("again", weights(house, 4), "8/3 8/3 1 8/3");
        Check.refused("who has not sent", Check.STATE, house, () -> house.weight(4));
        house.invite(4, 0, 0);
        house.call();
        Check.refused("who has begun", Check.STATE, house, () -> house.weight(4));
        Check.sound("again", house);
    }

    /** A rim told twice is one rim; the third one is refused, the first two are told on. */
    private static void rims() {
        Askhouse house = sent(new int[] {2, 2, 2}, new int[] {0, 0, 0});
        Check.same("the first", house.rim(1, 0, 5), 1);
        Check.same("told twice", house.rim(1, 0, 6), 1);
        Check.same("another code", house.rim(1, 1, 7), 1);
        Check.same("the second", house.rim(0, 0, 6), 2);
        Check.refused("the third", Check.STATE, house, () -> house.rim(2, 0, 6));
        Check.refused("the code before that", Check.ARGUMENT, house, () -> house.rim(2, 2, 6));
        Check.refused("the target before that", Check.ARGUMENT, house, () -> house.rim(2, 0, 100));
        Check.same("the first told on", house.rim(1, 0, 9) + house.rim(0, 0, 9), 4);
        Check.same("the target told last", house.weigh(1000) + " " + house.weight(0), "1 9");
        Check.same("how many", house.count(8), 2);
        Check.sound("rims", house);
    }

    /** The first rim in the first step; nothing else than the order in which they were told first. */
    private static void rimOrder() {
        Askhouse house = sent(new int[] {2, 2}, new int[] {0, 0}, new int[] {0, 1}, new int[] {1, 0});
        house.rim(1, 0, 2);
        house.rim(0, 0, 2);
        house.rim(0, 1, 2);
        house.rim(1, 1, 2);
        house.rim(1, 0, 2);
        Check.same("question 1 first", house.weigh(2), 3);
        Check.same("question 1 first", weights(house, 3), "1/2 2 3/2");
    }

    private static void rimTargets() {
        Askhouse house = sent(new int[] {2}, new int[] {0}, new int[] {0});
        for (int target : new int[] {MIN, -1, 0, 100, MAX}) {
            Check.refused("target " + target, Check.ARGUMENT, house, () -> house.rim(0, 0, target));
        }
        Check.refused("no rim", Check.STATE, house, () -> house.weigh(1));
        house.rim(0, 0, 1);
        Check.same("the least target", house.weigh(1000) + weights(house, 2), "11/2 1/2");
        house.rim(0, 0, 99);
        Check.same("the greatest target", house.weigh(1000) + weights(house, 2), "199/2 99/2");
    }

    /**
     * Close at once, after three steps, and never. The weights are 1 1 1, then 1 1 2, then 2/3 2 4/3, then 1/2 3/2 2; the
     * sums of question 0 are 2 1, 2 2, 8/3 4/3, 2 2, those of question 1 are 2 1, 3 1, 2 2, 5/2 3/2.
     */
    private static void closeness() {
        Askhouse house = sent(new int[] {2, 2}, new int[] {0, 0}, new int[] {0, 1}, new int[] {1, 0});
        for (int question = 0; question < 2; question++) {
            house.rim(question, 0, 2);
            house.rim(question, 1, 2);
        }
        Check.same("at once", house.weigh(1) + weights(house, 3), "01 1 1");
        Check.same("after three", house.weigh(2) + weights(house, 3), "31/2 3/2 2");
        Check.same("never", house.weigh(3) + weights(house, 3), "-11/2 3/2 2");
        Check.same("never", house.weigh(1000) + weights(house, 3), "-11/2 3/2 2");
        Check.sound("weighed", house);
        Check.same("at once again", house.weigh(1) + weights(house, 3), "01 1 1");
    }

    /** After one step, and after two, the rims going well together. */
    private static void closeAfterTwo() {
        Askhouse house = sent(new int[] {2, 2}, new int[] {0, 0}, new int[] {0, 1}, new int[] {1, 0}, new int[] {1, 1});
        house.rim(0, 0, 4);
        house.rim(0, 1, 8);
        house.rim(1, 0, 6);
        Check.same("after one", house.weigh(1000) + " " + weights(house, 4), "1 2 2 4 4");
        house.rim(1, 0, 3);
        house.rim(1, 1, 9);
        Check.same("after two", house.weigh(1000) + " " + weights(house, 4), "2 1 3 2 6");
        Check.same("after two, near enough after none", house.weigh(1), 2);
        house.rim(0, 0, 3);
        house.rim(0, 1, 2);
        house.rim(1, 0, 2);
        house.rim(1, 1, 3);
        Check.same("one away: at once", house.weigh(1) + " " + weights(house, 4), "0 1 1 1 1");
        Check.same("half away: after one", house.weigh(2) + " " + weights(house, 4), "1 3/2 3/2 1 1");
        Check.same("not half away: after two", house.weigh(3) + " " + weights(house, 4), "2 6/5 9/5 4/5 6/5");
    }

    private static void closeBounds() {
        Askhouse house = sent(new int[] {2}, new int[] {0});
        for (int close : new int[] {MIN, -1, 0, 1001, 1002, MAX}) {
            Check.refused("close " + close, Check.ARGUMENT, house, () -> house.weigh(close));
        }
        Check.refused("no rim", Check.STATE, house, () -> house.weigh(1000));
        house.rim(0, 0, 2);
        Check.same("1", house.weigh(1), 0);
        Check.same("2", house.weigh(2), 1);
        Check.same("1000", house.weigh(1000), 1);
    }

    /** By just 1 / close, below and above, is close. */
    private static void closeJust() {
        Askhouse house = sent(new int[] {2}, new int[] {0}, new int[] {0}, new int[] {0});
        int[] due = {1, 0, 0, 0, 1};
        for (int target = 1; target <= 5; target++) {
            house.rim(0, 0, target);
            Check.same("target " + target, house.weigh(1), due[target - 1]);
            Check.same("target " + target, house.weigh(1000), target == 3 ? 0 : 1);
        }
        // Of a code without a target nothing is asked, however far it is.
        Askhouse other = sent(new int[] {2}, new int[] {0}, new int[] {1}, new int[] {1});
        other.rim(0, 0, 1);
        Check.same("without a target", other.weigh(1000), 0);
    }

    /** Who has no answer of a rim keeps the weight; a sum that is 0 is neither weighed nor asked to be close. */
    private static void weighWithoutAnswers() {
        Askhouse house = Check.pages(1);
        house.question(0, 0, 2, 0);
        house.question(0, 0, 3, 0);
        house.show(1, house.is(0, 0, 1));
        Check.sendWith(house, 0, 0);
        Check.sendWith(house, 1, 1, 0);
        Check.sendWith(house, 2, 1, 1);
        house.rim(1, 0, 5);
        house.rim(1, 2, 9);
        Check.same("weighed", house.weigh(1000) + " " + weights(house, 3), "1 1 5 1");
        Check.same("the sum of all", house.cell(0, 0, NONE, 0, true) + " " + house.cell(0, 1, NONE, 0, true), "1 6");
        house.rim(0, 0, 3);
        Check.same("both", house.weigh(1000) + " " + weights(house, 3), "2 3 5 1");
        Check.sound("weighed", house);
    }

    private static void leastBounds() {
        Askhouse house = new Askhouse();
        for (int least : new int[] {MIN, -1, 0, 9, 10, MAX}) {
            Check.refused("least " + least, Check.ARGUMENT, house, () -> house.least(least));
        }
        Check.same("at first", house.least(1), 3);
        for (int least = 2; least <= 8; least++) {
            Check.same("before", house.least(least), least - 1);
        }
        Check.same("before", house.least(8), 8);
        Check.same("is no change of the form", house.count(4), 0);
    }

    /** Two questions whose cells are the table told. */
    private static Askhouse table(int[]... cells) {
        Askhouse house = sent(new int[] {cells.length, cells[0].length});
        int person = 0;
        for (int i = 0; i < cells.length; i++) {
            for (int k = 0; k < cells[i].length; k++) {
                for (int many = 0; many < cells[i][k]; many++) {
                    Check.sendWith(house, person, i, k);
                    person++;
                }
            }
        }
        return house;
    }

    private static void outside(String due, int least, int[]... cells) {
        Askhouse house = table(cells);
        house.least(least);
        Check.same("outside with K " + least, house.outside(0, 1), due);
    }

    /** K 1 hides nothing, K 8 all but a single cell of 8. */
    private static void outsideLeast() {
        outside("1,0;0,1", 1, new int[] {1, 0}, new int[] {0, 1});
        outside("1,1;1,5", 1, new int[] {1, 1}, new int[] {1, 5});
        outside("8,0;0,0", 8, new int[] {8, 0}, new int[] {0, 0});
        outside("none", 8, new int[] {7, 0}, new int[] {0, 1});
        outside("none", 8, new int[] {7, 1}, new int[] {0, 0});
        outside("none", 8, new int[] {7, 0}, new int[] {0, 0});
        outside("7,0;0,0", 7, new int[] {7, 0}, new int[] {0, 0});
        outside("none", 5, new int[] {4, 0}, new int[] {0, 4});
        outside("4,0;0,4", 4, new int[] {4, 0}, new int[] {0, 4});
    }

    /** A line with a sum above 0 and below K: nothing is told, be it the first one or the last one of each question. */
    private static void outsideNone() {
        outside("none", 3, new int[] {2, 0}, new int[] {0, 6});
        outside("none", 3, new int[] {6, 0}, new int[] {0, 2});
        outside("none", 3, new int[] {2, 2}, new int[] {0, 4}, new int[] {0, 0});
        outside("none", 3, new int[] {1, 3}, new int[] {1, 3});
        outside("none", 3, new int[] {3, 1}, new int[] {3, 1});
        outside("none", 3, new int[] {3, 0, 0}, new int[] {0, 3, 2});
        outside("3,0,0;0,3,0", 3, new int[] {3, 0, 0}, new int[] {0, 3, 0});
    }

    private static void outsideHidden() {
        // One hidden in a line takes the least of those beside it, be it 0.
        outside("*,*;*,*", 3, new int[] {2, 1}, new int[] {1, 4});
        outside("*,*;*,*", 2, new int[] {1, 3}, new int[] {2, 2});
        outside("*,*;*,*", 2, new int[] {4, 0}, new int[] {1, 3});
        // The first of several that are the least: of both 2 in the first line, of both 0 in the second one.
        outside("*,*,2;*,*,0", 2, new int[] {1, 2, 2}, new int[] {2, 0, 0});
        outside("*,*;*,*;2,0", 2, new int[] {1, 2}, new int[] {2, 0}, new int[] {2, 0});
        // Two hidden with a sum below K take a third one.
        outside("*,*,*;*,*,*", 2, new int[] {1, 0, 3}, new int[] {2, 2, 0});
        // All are hidden: nothing is left to hide, and it is told so.
        outside("*,*;*,*", 3, new int[] {1, 2}, new int[] {2, 1});
        outside("*,*;*,*", 4, new int[] {2, 2}, new int[] {2, 2});
        // Nothing is hidden: nothing is weak.
        outside("2,2;2,2", 2, new int[] {2, 2}, new int[] {2, 2});
        outside("2,2;2,2", 1, new int[] {2, 2}, new int[] {2, 2});
    }

    /** What is in a line with the sum 0 is never hidden; such a line is told. */
    private static void outsideEmptyLines() {
        outside("*,0,*;*,0,*", 2, new int[] {1, 0, 3}, new int[] {1, 0, 3});
        outside("0,0;*,*;*,*", 2, new int[] {0, 0}, new int[] {1, 3}, new int[] {1, 3});
        outside("*,*;0,0;*,*", 2, new int[] {1, 3}, new int[] {0, 0}, new int[] {1, 3});
        outside("0,*,*;0,*,*;0,0,0", 2, new int[] {0, 1, 3}, new int[] {0, 1, 3}, new int[] {0, 0, 0});
        outside("0,0,0;0,0,8", 8, new int[] {0, 0, 0}, new int[] {0, 0, 8});
    }

    /** Each table of two lines and three with eight people, and each K, beside the oracle. */
    private static void eachTable() {
        int told = 0;
        for (int k = 0; k < 59049; k += 3) {
            int[] cells = new int[6];
            int rest = k;
            int sum = 0;
            for (int at = 0; at < 5; at++) {
                cells[at] = rest % 9;
                sum += cells[at];
                rest /= 9;
            }
            cells[5] = 8 - sum;
            if (sum > 8) {
                continue;
            }
            Askhouse house = sent(new int[] {2, 3});
            Oracle oracle = new Oracle();
            oracle.page();
            oracle.jump(0, NONE, 9);
            oracle.question(0, 0, 2, 0);
            oracle.question(0, 0, 3, 0);
            int person = 0;
            for (int at = 0; at < 6; at++) {
                for (int many = 0; many < cells[at]; many++) {
                    Check.sendWith(house, person, at / 3, at % 3);
                    oracle.invite(person, 5, 0);
                    oracle.call();
                    oracle.answer(person, 0, NONE, at / 3);
                    oracle.answer(person, 1, NONE, at % 3);
                    oracle.go(person);
                    oracle.send(person);
                    person++;
                }
            }
            for (int least = 1; least <= 8; least++) {
                house.least(least);
                oracle.least(least);
                Check.same("outside", house.outside(0, 1), oracle.outside(0, 1));
                Check.same("outside", house.outside(1, 0), oracle.outside(1, 0));
            }
            Check.same("apart", house.apart(0, 1), oracle.apart(0, 1));
            told++;
        }
        Check.same("some tables", told > 200, true);
    }
}
