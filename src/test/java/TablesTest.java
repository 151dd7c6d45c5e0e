/** Promises 38 to 45: tables, weights, and what may be told outside. */
public final class TablesTest {
    private static final int NONE = -1;

    public static void main(String[] args) {
        cell();
        cellRefused();
        cube();
        rim();
        weigh();
        weighClose();
        weighTwoRims();
        weighZero();
        weighLong();
        weight();
        apart();
        apartRefused();
        least();
        outside();
        outsideHides();
        outsideRefused();
        withoutOption();
        Check.end("TablesTest");
    }

    /** One page with questions of so many choices each, answered by one person after the other; below 0: not asked. */
    private static Askhouse sent(int[] choices, int[]... codes) {
        Askhouse house = Check.pages(1);
        for (int many : choices) {
            house.question(0, 0, many, 0);
        }
        for (int person = 0; person < codes.length; person++) {
            Check.sendWith(house, person, codes[person]);
        }
        return house;
    }

    /** Two questions whose cells are the table told. */
    private static Askhouse table(int[]... cells) {
        Askhouse house = sent(new int[] {Math.max(cells.length, 2), Math.max(cells[0].length, 2)});
        int person = 0;
        for (int i = 0; i < cells.length; i++) {
            for (int k = 0; k < cells[i].length; k++) {
                for (int many = 0; many < cells[i][k]; many++) {
                    Check.sendWith(house, person, i, k);
                    person++;
                }
            }
        }
        return house;
    }

    // promise 38
    private static void cell() {
        Askhouse house = sent(new int[] {2, 3}, new int[] {0, 0}, new int[] {0, 1}, new int[] {1, 0}, new int[] {0, 0});
        Check.same("one question", house.cell(0, 0, NONE, 0, false), "3");
        Check.same("one question, another code", house.cell(0, 1, NONE, 99, false), "1");
        Check.same("two", house.cell(0, 0, 1, 0, false), "2");
        Check.same("two, the other way", house.cell(1, 0, 0, 0, false), "2");
        Check.same("nobody", house.cell(1, 2, NONE, 0, false), "0");
        Check.same("the same twice", house.cell(0, 0, 0, 0, false), "3");
        Check.same("two codes of one", house.cell(0, 0, 0, 1, false), "0");
        for (int code : new int[] {-1, -2, 3, 100, Integer.MAX_VALUE, Integer.MIN_VALUE}) {
            Check.same("no such code", house.cell(0, code, NONE, 0, false), "0");
            Check.same("no such code", house.cell(0, 0, 1, code, true), "0");
        }
        Check.same("not weighed", house.cell(0, 0, NONE, 0, true), "3");
        house.rim(0, 0, 1);
        house.weigh(1000);
        Check.same("weighed", house.cell(0, 0, NONE, 0, true), "1");
        Check.same("weighed", house.cell(0, 0, 1, 0, true), "2/3");
        Check.same("weighed", house.cell(1, 0, NONE, 0, true), "5/3");
        Check.same("not with weights", house.cell(1, 0, NONE, 0, false), "3");
        // Who has begun, or was turned away, or was not asked, does not count.
        Askhouse other = Check.pages(1);
        other.question(0, 0, 2, 0);
        other.question(0, 0, 2, 0);
        other.show(1, other.is(0, 0, 1));
        other.quota(other.is(0, 0, 0), 1);
        Check.sendWith(other, 0, 0);
        Check.same("turned away", Check.sendWith(other, 1, 0), -2);
        other.invite(2, 0, 0);
        other.call();
        other.answer(2, 0, NONE, 0);
        Check.same("just who has sent", other.cell(0, 0, NONE, 0, false), "1");
        Check.same("not asked", other.cell(1, NONE, NONE, 0, false), "0");
        Check.same("not asked", other.cell(0, 0, 1, NONE, false), "0");
    }

    private static void cellRefused() {
        Askhouse house = Check.pages(2);
        house.question(0, 1, 2, 0);
        house.question(0, 4, 0, 0);
        house.question(1, 0, 2, 0);
        house.loop(1, 0, 1);
        Check.refused("first -1", Check.INDEX, house, () -> house.cell(-1, 0, 0, 0, false));
        Check.refused("first 3", Check.INDEX, house, () -> house.cell(3, 0, 0, 0, false));
        Check.refused("second 3", Check.INDEX, house, () -> house.cell(0, 0, 3, 0, false));
        Check.refused("second -2", Check.INDEX, house, () -> house.cell(0, 0, -2, 0, false));
        Check.refused("second before bare", Check.INDEX, house, () -> house.cell(1, 0, 3, 0, false));
        Check.refused("a text", Check.ARGUMENT, house, () -> house.cell(1, 0, NONE, 0, false));
        Check.refused("a text as second", Check.ARGUMENT, house, () -> house.cell(0, 0, 1, 0, false));
        Check.refused("in a loop", Check.ARGUMENT, house, () -> house.cell(2, 0, NONE, 0, true));
    }

    // promise 39
    private static void cube() {
        Askhouse house = sent(new int[] {2, 3, 2}, new int[] {0, 0, 1}, new int[] {0, 0, 0}, new int[] {1, 2, 1},
            new int[] {0, 0, 1});
        Check.same("two of four", house.cube(0, 0, 1, 0, 2, 1), 2);
        Check.same("in another order", house.cube(2, 1, 0, 0, 1, 0), 2);
        Check.same("one", house.cube(0, 1, 1, 2, 2, 1), 1);
        Check.same("none", house.cube(0, 1, 1, 0, 2, 1), 0);
        Check.same("the same thrice", house.cube(0, 0, 0, 0, 0, 0), 3);
        Check.same("no such code", house.cube(0, 0, 1, 0, 2, -1), 0);
        Check.same("no such code", house.cube(0, -1, 0, -1, 0, -1), 0);
        Check.same("no such code", house.cube(0, 0, 1, Integer.MAX_VALUE, 2, 1), 0);
        house.question(0, 5, 0, 0);
        Check.same("who was not asked has no code", house.cube(0, 0, 1, 0, 2, 1), 2);
        Check.refused("first 4", Check.INDEX, house, () -> house.cube(4, 0, 1, 0, 2, 0));
        Check.refused("second -1", Check.INDEX, house, () -> house.cube(0, 0, -1, 0, 2, 0));
        Check.refused("third 4", Check.INDEX, house, () -> house.cube(0, 0, 1, 0, 4, 0));
        Check.refused("third before bare", Check.INDEX, house, () -> house.cube(3, 0, 1, 0, 4, 0));
        Check.refused("a date", Check.ARGUMENT, house, () -> house.cube(3, 0, 1, 0, 2, 0));
        Check.refused("a date", Check.ARGUMENT, house, () -> house.cube(0, 0, 3, 0, 2, 0));
        Check.refused("a date", Check.ARGUMENT, house, () -> house.cube(0, 0, 1, 0, 3, 0));
    }

    // promise 40
    private static void rim() {
        Askhouse house = Check.pages(1);
        house.question(0, 0, 3, 0);
        house.question(0, 1, 2, 1);
        house.question(0, 6, 2, 2);
        house.question(0, 4, 0, 0);
        Check.refused("question 4", Check.INDEX, house, () -> house.rim(4, 0, 1));
        Check.refused("question before code", Check.INDEX, house, () -> house.rim(-1, -1, 0));
        Check.refused("a text", Check.ARGUMENT, house, () -> house.rim(3, 0, 1));
        Check.refused("code -1", Check.ARGUMENT, house, () -> house.rim(0, -1, 1));
        Check.refused("code 3", Check.ARGUMENT, house, () -> house.rim(0, 3, 1));
        Check.refused("target 0", Check.ARGUMENT, house, () -> house.rim(0, 0, 0));
        Check.refused("target 100", Check.ARGUMENT, house, () -> house.rim(0, 0, 100));
        Check.same("rim", house.rim(0, 2, 99), 1);
        Check.same("the same question", house.rim(0, 0, 1), 1);
        Check.same("another one, a code that does not fit", house.rim(1, 0, 1), 2);
        Check.same("told again", house.rim(0, 2, 5), 2);
        Check.refused("a third one", Check.STATE, house, () -> house.rim(2, 3, 1));
        Check.refused("code before how many", Check.ARGUMENT, house, () -> house.rim(2, 4, 1));
        Check.same("count", house.count(8), 2);
        Askhouse looped = Check.pages(2);
        looped.question(0, 1, 2, 0);
        looped.question(1, 0, 2, 0);
        looped.loop(1, 0, 1);
        Check.refused("in a loop", Check.ARGUMENT, looped, () -> looped.rim(1, 0, 1));
        looped.loop(1, NONE, 0);
        Check.same("not in a loop any more", looped.rim(1, 0, 1), 1);
    }

    // promise 41
    private static void weigh() {
        Askhouse house = sent(new int[] {3}, new int[] {0}, new int[] {0}, new int[] {1}, new int[] {0}, new int[] {2});
        Check.refused("close 0", Check.ARGUMENT, house, () -> house.weigh(0));
        Check.refused("close 1001", Check.ARGUMENT, house, () -> house.weigh(1001));
        Check.refused("no rim", Check.STATE, house, () -> house.weigh(1));
        house.rim(0, 0, 1);
        house.rim(0, 1, 7);
        Check.same("one step", house.weigh(1000), 1);
        Check.same("a third", house.weight(0) + " " + house.weight(3), "1/3 1/3");
        Check.same("seven", house.weight(2), "7");
        Check.same("without a target", house.weight(4), "1");
        Check.same("all are 1 first, so it is the same again", house.weigh(1000), 1);
        Check.same("a third", house.weight(0), "1/3");
        house.rim(0, 0, 6);
        Check.same("told again", house.weigh(1), 1);
        Check.same("two", house.weight(0), "2");
        Check.sendWith(house, 6, 0);
        Check.same("who sends later weighs 1", house.weight(6), "1");
        Check.same("the others as before", house.weight(0), "2");
        Check.same("weighed, too", house.weigh(1000) + house.weight(6), "13/2");
        Check.same("weighed, too", house.weight(0), "3/2");
    }

    private static void weighClose() {
        Askhouse house = sent(new int[] {2}, new int[] {0}, new int[] {0}, new int[] {0});
        house.rim(0, 0, 2);
        Check.same("one away is near enough for 1", house.weigh(1), 0);
        Check.same("so nothing is weighed", house.weight(0), "1");
        Check.same("but not for 2", house.weigh(2), 1);
        Check.same("weighed", house.weight(0), "2/3");
        Check.same("near enough again", house.weigh(1), 0);
        Check.same("back to 1", house.weight(0), "1");
        house.rim(0, 0, 4);
        Check.same("one below is near enough, too", house.weigh(1), 0);
        Check.same("but not for 2", house.weigh(2), 1);
        house.rim(0, 0, 5);
        Check.same("two below is not", house.weigh(1), 1);
    }

    private static void weighTwoRims() {
        Askhouse house = sent(new int[] {2, 2}, new int[] {0, 0}, new int[] {0, 0}, new int[] {0, 1}, new int[] {1, 0});
        house.rim(0, 0, 2);
        house.rim(0, 1, 2);
        house.rim(1, 0, 1);
        house.rim(1, 1, 3);
        Check.same("not close after three", house.weigh(1), NONE);
        Check.same("after three steps", house.weight(0) + " " + house.weight(1) + " " + house.weight(2) + " " + house.weight(3),
            "2/17 2/17 30/17 2");
        Check.same("a sum", house.cell(1, 0, NONE, 0, true), "38/17");
        // The rim that was told first goes first.
        Askhouse other = sent(new int[] {2, 2}, new int[] {0, 0}, new int[] {0, 0}, new int[] {0, 1}, new int[] {1, 0});
        other.rim(1, 0, 1);
        other.rim(0, 0, 2);
        other.rim(1, 1, 3);
        other.rim(0, 1, 2);
        Check.same("the other order", other.weigh(1), NONE);
        Check.same("after three steps", other.weight(0) + " " + other.weight(1) + " " + other.weight(2) + " " + other.weight(3),
            "1/13 1/13 3 11/13");
        // Two steps are enough, if the rims go well together.
        Askhouse even = sent(new int[] {2, 2}, new int[] {0, 0}, new int[] {0, 1}, new int[] {1, 0}, new int[] {1, 1});
        even.rim(0, 0, 6);
        even.rim(1, 0, 5);
        even.rim(0, 1, 4);
        even.rim(1, 1, 5);
        Check.same("one rim is enough", even.weigh(1000), 1);
        even.rim(1, 0, 8);
        even.rim(1, 1, 2);
        Check.same("both", even.weigh(1000), 2);
        Check.same("weights", even.weight(0) + " " + even.weight(1) + " " + even.weight(2) + " " + even.weight(3),
            "24/5 6/5 16/5 4/5");
    }

    private static void weighZero() {
        Askhouse house = sent(new int[] {2}, new int[] {0});
        house.rim(0, 1, 9);
        Check.same("a sum of 0 is let be", house.weigh(1000), 0);
        Check.same("weight", house.weight(0), "1");
        Askhouse nobody = sent(new int[] {2});
        nobody.rim(0, 0, 9);
        Check.same("nobody has sent", nobody.weigh(1), 0);
        Askhouse three = sent(new int[] {2}, new int[] {0});
        three.rim(0, 0, 99);
        Check.same("sums are as with weights", three.weigh(1) + three.cell(0, 0, NONE, 0, true), "199");
    }

    /** Weights with many digits, as the oracle tells them. */
    private static void weighLong() {
        int[] targets = {97, 89, 83, 79, 73, 71, 67, 61, 59, 53};
        for (int spread = 0; spread < 24; spread++) {
            Askhouse house = Check.pages(1);
            Oracle oracle = new Oracle();
            oracle.page();
            oracle.jump(0, NONE, 9);
            for (int question = 0; question < 2; question++) {
                house.question(0, 3, 0, 9);
                oracle.question(0, 3, 0, 9);
            }
            for (int person = 0; person < 8; person++) {
                int first = person / (1 + spread % 4);
                int second = (person * (1 + spread / 4) + spread) % 7;
                Check.sendWith(house, person, first, second);
                oracle.invite(person, 5, 0);
                oracle.call();
                oracle.answer(person, 0, NONE, first);
                oracle.answer(person, 1, NONE, second);
                oracle.go(person);
                oracle.send(person);
            }
            for (int code = 0; code < 10; code++) {
                house.rim(spread % 2, code, targets[code]);
                oracle.rim(spread % 2, code, targets[code]);
                house.rim(1 - spread % 2, code, targets[(code + 3) % 10] - 40 + spread);
                oracle.rim(1 - spread % 2, code, targets[(code + 3) % 10] - 40 + spread);
            }
            Check.same("steps", house.weigh(1000), oracle.weigh(1000));
            for (int person = 0; person < 8; person++) {
                Check.same("weight", house.weight(person), oracle.weight(person));
            }
            for (int code = 0; code < 10; code++) {
                Check.same("sum", house.cell(0, code, NONE, 0, true), oracle.cell(0, code, NONE, 0, true));
                Check.same("sum", house.cell(1, code, NONE, 0, true), oracle.cell(1, code, NONE, 0, true));
            }
            Check.same("sound", house.isSound(), true);
        }
    }

    // promise 42
    private static void weight() {
        Askhouse house = sent(new int[] {2}, new int[] {0});
        house.invite(1, 0, 0);
        house.call();
        Check.refused("person 8", Check.INDEX, house, () -> house.weight(8));
        Check.refused("person -1", Check.INDEX, house, () -> house.weight(-1));
        Check.refused("new", Check.STATE, house, () -> house.weight(2));
        Check.refused("begun", Check.STATE, house, () -> house.weight(1));
        Check.same("not weighed", house.weight(0), "1");
        house.quota(house.inGroup(0), 1);
        Check.sendWith(house, 2, 0);
        Check.same("turned away", Check.sendWith(house, 3, 0), -2);
        Check.refused("turned away", Check.STATE, house, () -> house.weight(3));
    }

    // promise 43
    private static void apart() {
        Check.same("without any", sent(new int[] {2, 2}).apart(0, 1), "0");
        Check.same("a table", table(new int[] {2, 1}, new int[] {1, 0}).apart(0, 1), "4/9");
        Check.same("the other way", table(new int[] {2, 1}, new int[] {1, 0}).apart(1, 0), "4/9");
        Check.same("all the same", table(new int[] {2, 0}, new int[] {0, 2}).apart(0, 1), "4");
        Check.same("quite apart", table(new int[] {2, 2}, new int[] {1, 1}).apart(0, 1), "0");
        Check.same("lines without any do not matter", table(new int[] {3, 0, 1}, new int[] {1, 0, 0}).apart(0, 1), "5/16");
        Check.same("with itself", table(new int[] {2, 1}, new int[] {1, 0}).apart(0, 0), "4");
        Check.same("three by three", table(new int[] {1, 0, 1}, new int[] {2, 1, 0}, new int[] {0, 1, 2}).apart(0, 1), "40/9");
        // Those who have one of both do not count.
        Askhouse house = Check.pages(1);
        house.question(0, 0, 2, 0);
        house.question(0, 0, 2, 0);
        house.show(1, house.is(0, 0, 1));
        Check.sendWith(house, 0, 0);
        Check.same("nobody has both", house.apart(0, 1), "0");
        Check.sendWith(house, 1, 1, 1);
        Check.same("one has", house.apart(0, 1), "0");
        Check.same("with itself", house.apart(0, 0), "2");
    }

    private static void apartRefused() {
        Askhouse house = Check.pages(1);
        house.question(0, 0, 2, 0);
        house.question(0, 5, 0, 0);
        Check.refused("first 2", Check.INDEX, house, () -> house.apart(2, 0));
        Check.refused("second -1", Check.INDEX, house, () -> house.apart(0, -1));
        Check.refused("second before bare", Check.INDEX, house, () -> house.apart(1, 2));
        Check.refused("a date", Check.ARGUMENT, house, () -> house.apart(1, 0));
        Check.refused("a date", Check.ARGUMENT, house, () -> house.apart(0, 1));
    }

    // promise 44
    private static void least() {
        Askhouse house = new Askhouse();
        Check.refused("0", Check.ARGUMENT, house, () -> house.least(0));
        Check.refused("9", Check.ARGUMENT, house, () -> house.least(9));
        Check.same("at first", house.least(8), 3);
        Check.same("then", house.least(1), 8);
        Check.same("then", house.least(1), 1);
        Check.same("not counted", house.count(4), 0);
    }

    // promise 45
    private static void outside() {
        Check.same("nobody", sent(new int[] {2, 3}).outside(0, 1), "0,0,0;0,0,0");
        Check.same("all may be told", table(new int[] {3, 0}, new int[] {0, 4}).outside(0, 1), "3,0;0,4");
        Check.same("the other way", table(new int[] {3, 0, 0}, new int[] {0, 0, 4}).outside(1, 0), "3,0;0,0;0,4");
        Check.same("a line below K", table(new int[] {2, 0}, new int[] {3, 3}).outside(0, 1), "none");
        Check.same("a column below K", table(new int[] {3, 1}, new int[] {3, 1}).outside(0, 1), "none");
        Askhouse house = table(new int[] {2, 0}, new int[] {3, 3});
        house.least(2);
        Check.same("K is 2", house.outside(0, 1), "2,0;3,3");
        house.least(1);
        Check.same("K is 1", house.outside(0, 1), "2,0;3,3");
        house.least(8);
        Check.same("K is 8", house.outside(0, 1), "none");
    }

    private static void outsideHides() {
        Check.same("one of each line, then another", table(new int[] {3, 1}, new int[] {1, 3}).outside(0, 1), "*,*;*,*");
        Check.same("not in a line of 0", table(new int[] {3, 1, 0}, new int[] {1, 3, 0}).outside(0, 1), "*,*,0;*,*,0");
        Check.same("not in a line of 0", table(new int[] {0, 0, 0}, new int[] {3, 0, 1}, new int[] {1, 0, 3}).outside(0, 1),
            "0,0,0;*,0,*;*,0,*");
        Check.same("a cell of 0 can be", table(new int[] {4, 0}, new int[] {1, 3}).outside(0, 1), "*,*;*,*");
        Askhouse house = table(new int[] {1, 0, 3}, new int[] {2, 2, 0});
        house.least(2);
        Check.same("two that are too few", house.outside(0, 1), "*,*,*;*,*,*");
        // The 1 of a line takes the 0 with it, as that is least, then the 2, as both are 1 together; so the third column
        // has two cells of 0 hidden, which takes its 2, and that one the first 0 of its line.
        Askhouse chain = table(new int[] {2, 1, 0}, new int[] {1, 2, 0}, new int[] {0, 0, 2});
        chain.least(2);
        Check.same("one after the other", chain.outside(0, 1), "*,*,*;*,*,*;*,0,*");
    }

    private static void outsideRefused() {
        Askhouse house = Check.pages(1);
        house.question(0, 0, 2, 0);
        house.question(0, 5, 0, 0);
        Check.refused("first 2", Check.INDEX, house, () -> house.outside(2, 0));
        Check.refused("second -1", Check.INDEX, house, () -> house.outside(0, -1));
        Check.refused("second before bare", Check.INDEX, house, () -> house.outside(1, 2));
        Check.refused("index before the same", Check.INDEX, house, () -> house.outside(2, 2));
        Check.refused("a date", Check.ARGUMENT, house, () -> house.outside(1, 0));
        Check.refused("a date", Check.ARGUMENT, house, () -> house.outside(0, 1));
        Check.refused("the same", Check.ARGUMENT, house, () -> house.outside(0, 0));
    }

    private static void withoutOption() {
        // Just answers with the OPTION NONE are looked at, also if the page has no loop any more.
        Askhouse house = Check.pages(2);
        house.question(0, 1, 2, 0);
        house.question(1, 0, 2, 0);
        house.loop(1, 0, 2);
        Check.begin(house, 1);
        house.answer(0, 0, NONE, 3);
        house.go(0);
        house.answer(0, 1, 0, 1);
        house.answer(0, 1, 1, 1);
        house.go(0);
        house.send(0);
        house.loop(1, NONE, 0);
        Check.same("not with an option", house.cell(1, 1, NONE, 0, false), "0");
        Check.same("but without one", house.cell(0, 3, NONE, 0, false), "1");
        Check.same("apart", house.apart(0, 1), "0");
        Check.same("cube", house.cube(0, 3, 1, 1, 1, 1), 0);
        house.least(1);
        Check.same("outside", house.outside(0, 1), "0,0;0,0;0,0;0,0");
        house.rim(1, 1, 50);
        Check.same("weighed", house.weigh(1000), 0);
        Check.same("sound", house.isSound(), true);
    }
}
