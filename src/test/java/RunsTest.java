import java.util.Arrays;

/**
 * Runs through several parts of the document at once: the form is changed while people are under way and after some have
 * sent. What is due stands here, as the document tells it; the Oracle beside the house must answer the same, and its
 * digest() is compared each time that isSound() is.
 */
public final class RunsTest {
    private static final int NONE = -1;
    private static final int END = 9;
    /** How many calls the document promises of an object. */
    private static final int PROMISED = 512;
    private static final String ARGUMENT = "throws.IllegalArgumentException";
    private static final String STATE = "throws.IllegalStateException";

    private final String name;
    private final Beside beside = new Beside();
    private Object digest = "none yet";

    private RunsTest(String name) {
        this.name = name;
    }

    public static void main(String[] args) {
        keptWhateverBecomes();
        quotasMadeLate();
        groupsChange();
        weightsOfLaterOnes();
        bareAfterwards();
        everythingToTheLast();
        Check.end("RunsTest");
    }

    // ---- one run

    private void due(Object due, String call, Object... args) {
        Object got = beside.ask(call, args);
        String what = name + ", call " + beside.told.size() + " " + call + Arrays.toString(args);
        Check.same(what, got, due);
        Check.same(what + ", as the oracle says", beside.isSame, true);
    }

    /** isSound() holds, and the digest is that of the oracle. */
    private void sound() {
        due(true, "isSound");
        digest = beside.ask("digest");
        Check.same(name + ", digest by call " + beside.told.size(), beside.isSame, true);
    }

    /** Nothing that the digest tells was changed since the last time. */
    private void unchanged() {
        due(digest, "digest");
    }

    private void end() {
        sound();
        Check.same(name + ", no more calls than are promised", beside.told.size() <= PROMISED, true);
    }

    private void comes(int person, int seed) {
        due(1, "invite", person, 5, seed);
        due(person, "call");
    }

    /** What somebody is, the page where he is, how many answers stand and are kept, and his steps. */
    private void is(int person, int state, int page, int standing, int kept, int steps) {
        due(state, "ofPerson", person, 0);
        due(page, "ofPerson", person, 1);
        due(standing, "ofPerson", person, 6);
        due(kept, "ofPerson", person, 7);
        due(steps, "ofPerson", person, 8);
    }

    // ---- the runs

    /** "Answers that somebody gave are KEPT, whatever STANDS, and whatever becomes of the form." */
    private static void keptWhateverBecomes() {
        RunsTest run = new RunsTest("kept");
        for (int page = 0; page < 3; page++) {
            run.due(page, "page");
        }
        run.due(0, "question", 0, 0, 3, 0);
        run.due(1, "question", 0, 1, 3, 0);
        run.due(2, "question", 1, 3, 0, 4);
        run.due(3, "question", 2, 0, 2, 0);
        run.due(0, "is", 0, 0, 1);
        run.due(1, "jump", 0, NONE, 1);
        run.due(1, "jump", 1, NONE, 2);
        run.due(1, "jump", 2, NONE, END);
        run.due(240, "rows", 0);
        run.due(0, "whole");
        run.comes(0, 0);
        run.comes(1, 1);
        run.comes(2, 2);
        run.due(1, "answer", 0, 0, NONE, 1);
        run.due(2, "answer", 0, 1, NONE, 5);
        run.due(1, "go", 0);
        run.due(3, "type", 0, 2, 3, 2);
        run.due(2, "go", 0);
        run.due(4, "answer", 0, 3, NONE, 1);
        run.due(END, "go", 0);
        run.due(1, "send", 0);
        run.due(1, "answer", 1, 0, NONE, 0);
        run.due(2, "answer", 1, 1, NONE, 6);
        run.due(1, "go", 1);
        run.due(3, "answer", 1, 2, NONE, 2);
        run.due(2, "go", 1);
        run.is(1, 2, 2, 3, 3, 2);
        run.sound();

        // A question is not asked any more, and is asked again.
        run.due(12, "show", 1, 0);
        run.is(1, 2, 2, 2, 3, 2);
        run.due("p2 q3=?", "seen", 1);
        run.due(NONE, "stands", 1, 1, NONE);
        run.due(STATE, "answer", 1, 1, NONE, 1);
        run.due("g0 0:b 1:ac 2:3 3:b", "record", 0);
        run.due(5, "stands", 0, 1, NONE);
        run.sound();
        run.due(13, "show", 1, NONE);
        run.is(1, 2, 2, 3, 3, 2);
        run.due(6, "stands", 1, 1, NONE);

        // A page is looped over: what was answered there without an option does not stand, and he is back on it.
        run.due(48, "loop", 1, 1, 2);
        run.is(1, 2, 1, 2, 3, 1);
        run.due("p1 q2.1=? q2.2=?", "seen", 1);
        run.due(NONE, "stands", 1, 2, NONE);
        run.due("g0 0:b 1:ac 2:3 3:b", "record", 0);
        run.is(0, 3, NONE, 4, 4, 0);
        run.due(ARGUMENT, "cell", 2, 3, NONE, 0, false);
        run.due("g0 0 0 - 0", "reached", 2);
        run.sound();
        run.due(STATE, "answer", 1, 2, NONE, 1);
        run.due(STATE, "answer", 1, 2, 0, 1);
        run.due(-9, "answer", 1, 2, 1, 5);
        run.unchanged();
        run.due(3, "answer", 1, 2, 1, 4);
        // With the last one he is where he was before, without a call of go.
        run.due(4, "answer", 1, 2, 2, 0);
        run.is(1, 2, 2, 4, 5, 2);
        run.due(240, "loop", 1, NONE, 0);
        run.is(1, 2, 2, 3, 5, 2);
        run.due(2, "stands", 1, 2, NONE);
        run.due(NONE, "stands", 1, 2, 1);
        run.due("1", "cell", 2, 3, NONE, 0, false);
        run.due(48, "loop", 1, 1, 1);
        run.is(1, 2, 2, 3, 5, 2);
        run.due(4, "stands", 1, 2, 1);
        run.due(NONE, "stands", 1, 2, 2);
        // What does not stand can be wiped, too; it is missed when it is asked again.
        run.due(3, "wipe", 1, 2, 2);
        run.due(48, "loop", 1, 1, 4);
        run.is(1, 2, 1, 3, 4, 1);
        run.due("p1 q2.1=4 q2.2=?", "seen", 1);
        run.due(5, "pass", 5);
        run.due(-4, "go", 1);
        run.due(5, "ofPerson", 1, 5);
        run.sound();

        // A jump is gone, and another one leads elsewhere.
        run.due(0, "dropJump", 0, 0);
        run.is(1, 2, 0, 2, 4, 0);
        run.due(-40, "go", 1);
        run.due(STATE, "back", 1);
        run.due(1, "whole");
        run.due("g0 0 0 - 0", "lost", 0);
        run.due(1, "jump", 0, 0, 1);
        run.due(-40, "go", 1);
        run.due(2, "jump", 0, NONE, 2);
        run.is(1, 2, 2, 2, 4, 1);
        run.due(5, "ofPerson", 1, 5);
        run.due(3, "answer", 1, 3, NONE, 0);
        run.due(0, "ofPerson", 1, 5);
        run.is(1, 2, END, 3, 5, 2);
        run.due(2, "send", 1);
        run.due("g0 0:a 1:bc 3:a", "record", 1);
        run.is(1, 3, NONE, 3, 5, 0);
        run.sound();

        // Who has sent is not asked what is new; who has not is.
        run.due(4, "question", 0, 5, 0, 0);
        run.due("p0 q0=? q1=? q4=?", "seen", 2);
        run.due("g0 0:a 1:bc 3:a", "record", 1);
        run.due("g0 0:b 1:ac 2:3 3:b", "record", 0);
        run.due(22, "place", 4, 0);
        run.due("p0 q0=? q1=? q4[-]=?", "seen", 2);
        run.due(1, "answer", 2, 0, NONE, 1);
        run.due(-9, "answer", 2, 4, NONE, 1232);
        run.due(2, "answer", 2, 4, NONE, 229);
        run.due("p0 q0=b q1=? q4[b]=2/29", "seen", 2);
        run.due(3, "answer", 2, 1, NONE, 0);
        run.due(1, "go", 2);
        // Nothing was chosen, so the page with the loop asks nothing.
        run.due("p1", "seen", 2);
        run.due(2, "go", 2);
        run.due(4, "answer", 2, 3, NONE, 1);
        run.due(END, "go", 2);
        run.due(3, "send", 2);
        run.due("g0 0:b 1:. 3:b 4:2/29", "record", 2);
        run.end();
    }

    /** "those who sent before a QUOTA was made are not counted in it" */
    private static void quotasMadeLate() {
        RunsTest run = new RunsTest("quotas");
        run.due(0, "page");
        run.due(0, "question", 0, 0, 2, 0);
        run.due(1, "jump", 0, NONE, END);
        run.due(0, "is", 0, 0, 0);
        run.due(1, "is", 0, 1, 0);
        run.toTheEnd(0, 0);
        run.due(1, "send", 0);
        run.toTheEnd(1, 0);
        run.due(2, "send", 1);
        run.sound();
        run.due(0, "quota", 0, 1);
        run.due(0, "count", 10);
        run.toTheEnd(2, 0);
        run.due(3, "send", 2);
        run.due(1, "count", 10);
        run.sound();
        run.toTheEnd(3, 0);
        run.due(-2, "send", 3);
        run.due(1, "count", 10);
        run.is(3, 4, NONE, 0, 1, 0);
        run.due("", "record", 3);
        run.due(1, "count", 6);
        run.due("3", "cell", 0, 0, NONE, 0, false);
        run.sound();

        run.toTheEnd(4, 1);
        run.due(4, "send", 4);
        run.due(1, "quota", 1, 1);
        run.due(0, "count", 11);
        run.toTheEnd(5, 1);
        run.due(5, "send", 5);
        run.due(1, "count", 11);

        // Two are in the end as a third quota is made, of which all are; the first ones are full.
        run.toTheEnd(6, 1);
        run.toTheEnd(7, 0);
        run.due(2, "inGroup", 0);
        run.due(2, "quota", 2, 2);
        run.due(0, "count", 12);
        run.sound();
        run.due(-3, "send", 6);
        run.due(0, "count", 12);
        run.due(0, "back", 7);
        run.due(1, "answer", 7, 0, NONE, 1);
        run.due(END, "go", 7);
        // What is not asked any more is in no record, and so in none of the full ones.
        run.due(3, "inGroup", 2);
        run.due(11, "show", 0, 3);
        run.is(7, 2, END, 0, 1, 1);
        run.sound();
        run.due(6, "send", 7);
        run.due("g0", "record", 7);
        run.is(7, 3, NONE, 0, 1, 0);
        run.due(1, "count", 10);
        run.due(1, "count", 11);
        run.due(1, "count", 12);
        run.due(0, "count", 13);

        // What becomes of the form changes neither what is counted nor what was sent.
        run.due(12, "show", 0, NONE);
        run.due(0, "dropJump", 0, 0);
        run.due(1, "whole");
        run.due(3, "quota", 3, 8);
        run.due(STATE, "quota", 3, 8);
        run.due("g0 0:a", "record", 0);
        run.due("g0", "record", 7);
        run.due("3", "cell", 0, 0, NONE, 0, true);
        run.due("2", "cell", 0, 1, NONE, 0, true);
        run.due(1, "question", 0, 0, 2, 0);
        run.due("0,0;0,0", "outside", 0, 1);
        run.due(6, "count", 5);
        run.due(2, "count", 6);
        run.end();
    }

    private void toTheEnd(int person, int code) {
        comes(person, 0);
        due(1, "answer", person, 0, NONE, code);
        due(END, "go", person);
    }

    /** "GROUPS are counted for the number of GROUPS that there are; who was drawn in another one keeps it" */
    private static void groupsChange() {
        RunsTest run = new RunsTest("groups");
        run.due(0, "page");
        run.due(1, "page");
        run.due(0, "question", 0, 0, 2, 0);
        run.due(1, "question", 1, 0, 2, 0);
        run.due(12, "groups", 3);
        run.due(0, "inGroup", 2);
        run.due(1, "jump", 0, 0, 1);
        run.due(2, "jump", 0, NONE, END);
        run.due(1, "jump", 1, NONE, END);
        run.due(0, "whole");
        run.due("g2 0 0", "reached", 1);
        run.comes(0, 2);
        run.due(2, "ofPerson", 0, 2);
        run.comes(1, 1);
        run.due(1, "ofPerson", 1, 2);
        run.sound();

        run.due(8, "groups", 2);
        run.due(3, "whole");
        run.due("none", "reached", 1);
        run.comes(2, 5);
        run.due(0, "ofPerson", 2, 2);
        // Person 0 is in a group that is not counted now: both others have one each.
        run.comes(3, 3);
        run.due(1, "ofPerson", 3, 2);
        run.due(2, "ofPerson", 0, 2);
        run.sound();
        run.due(1, "answer", 0, 0, NONE, 1);
        run.due(1, "go", 0);
        run.due(2, "answer", 0, 1, NONE, 0);
        run.due(END, "go", 0);
        run.due(1, "send", 0);
        run.due("g2 0:b 1:a", "record", 0);
        run.due(1, "answer", 2, 0, NONE, 1);
        run.due(END, "go", 2);

        run.due(4, "groups", 1);
        run.due(9, "count", 3);
        run.due("groups 1", "line", 8);
        run.comes(4, 9);
        run.due(0, "ofPerson", 4, 2);
        run.due(1, "ofPerson", 1, 2);
        run.due(1, "inGroup", 1);
        run.due(13, "show", 0, 1);
        run.due("p0 q0=?", "seen", 1);
        run.due("p0", "seen", 4);
        run.due("end", "seen", 2);
        run.is(2, 2, END, 0, 1, 1);
        run.due(END, "go", 4);
        run.due(2, "send", 4);
        run.due("g0", "record", 4);
        run.due(1, "answer", 1, 0, NONE, 0);
        run.sound();

        run.due(12, "groups", 3);
        // Of those called two each are in the groups 0 and 1; the one of group 2 has sent, and counts.
        run.comes(5, 8);
        run.due(2, "ofPerson", 5, 2);
        run.due("p0", "seen", 5);
        run.due(1, "go", 5);
        run.due("p1 q1=?", "seen", 5);
        run.due(0, "whole");
        run.due("g2 0 0", "reached", 1);
        run.due(0, "quota", 0, 1);
        run.due(0, "count", 10);
        run.due(0, "back", 5);
        run.due(1, "dropJump", 0, 0);
        run.due(3, "whole");
        run.due(END, "go", 5);
        run.due(3, "send", 5);
        run.due("g2", "record", 5);
        run.due("g2 0:b 1:a", "record", 0);
        run.due(1, "count", 10);
        run.sound();

        run.due(8, "groups", 2);
        run.comes(6, 0);
        run.due(0, "ofPerson", 6, 2);
        run.comes(7, 0);
        run.due(1, "ofPerson", 7, 2);
        run.due("p0 q0=?", "seen", 7);
        run.due("p0", "seen", 6);
        run.due(2, "ofPerson", 5, 2);
        run.due(NONE, "call");
        run.end();
    }

    /** "Who sends later has the WEIGHT 1." */
    private static void weightsOfLaterOnes() {
        RunsTest run = new RunsTest("weights");
        run.due(0, "page");
        run.due(0, "question", 0, 0, 2, 0);
        run.due(1, "question", 0, 0, 3, 0);
        run.due(1, "jump", 0, NONE, END);
        run.sends(0, 0, 0, 1);
        run.sends(1, 0, 1, 2);
        run.sends(2, 1, 0, 3);
        run.comes(3, 0);
        run.due(1, "rim", 0, 0, 4);
        run.due(1, "rim", 0, 1, 2);
        run.due(1, "weigh", 100);
        run.due("2", "weight", 0);
        run.due("2", "weight", 2);
        run.due(STATE, "weight", 3);
        run.sound();
        run.due(1, "answer", 3, 0, NONE, 1);
        run.due(2, "answer", 3, 1, NONE, 2);
        run.due(END, "go", 3);
        run.due(4, "send", 3);
        run.due("1", "weight", 3);
        run.due("2", "weight", 2);
        run.due("3", "cell", 0, 1, NONE, 0, true);
        run.due("2", "cell", 0, 1, NONE, 0, false);
        run.due("4", "cell", 1, 0, NONE, 0, true);
        run.sound();

        // A new question: who was in the end is back on the page; a page with a rim gets no loop.
        run.comes(4, 0);
        run.due(1, "answer", 4, 0, NONE, 0);
        run.due(2, "answer", 4, 1, NONE, 0);
        run.due(END, "go", 4);
        run.due(2, "question", 0, 0, 2, 0);
        run.is(4, 2, 0, 2, 2, 0);
        run.due(1, "page");
        run.due(3, "question", 1, 1, 2, 0);
        run.sound();
        run.due(STATE, "loop", 0, 3, 1);
        run.due(STATE, "send", 4);
        run.due(ARGUMENT, "rim", 0, 2, 1);
        run.due(ARGUMENT, "weigh", 0);
        run.unchanged();

        // Weighing begins anew, with all of them.
        run.due(1, "weigh", 100);
        run.due("2", "weight", 1);
        run.due("1", "weight", 2);
        run.due("1", "weight", 3);
        run.due(3, "answer", 4, 2, NONE, 0);
        // He is in the end by the answer: his cursor is as it was.
        run.due(5, "send", 4);
        run.due("1", "weight", 4);
        run.due("5", "cell", 0, 0, NONE, 0, true);
        run.due("1", "cell", 0, 0, 2, 0, true);
        run.due("3", "cell", 0, 0, 1, 0, true);
        run.sound();

        run.due(3, "least", 1);
        run.due("2,1,0;1,0,1", "outside", 0, 1);
        run.due("1,0;0,0", "outside", 0, 2);
        run.due(1, "least", 2);
        run.due("none", "outside", 0, 1);
        run.due(2, "rim", 2, 0, 50);
        run.due(STATE, "rim", 1, 0, 3);
        run.due(NONE, "weigh", 1000);
        run.due("8/79", "weight", 0);
        run.due("300/79", "weight", 4);
        run.due("1", "weight", 3);
        run.due("4", "cell", 0, 0, NONE, 0, true);
        run.sound();

        // Who is not asked the first question is in no sum over its codes, and in the others with 1.
        run.due(0, "inGroup", 1);
        run.due(9, "show", 0, 0);
        run.comes(5, 0);
        run.due("p0 q1=? q2=?", "seen", 5);
        run.due(1, "answer", 5, 1, NONE, 0);
        run.due(2, "answer", 5, 2, NONE, 0);
        run.due(END, "go", 5);
        run.due(6, "send", 5);
        run.due("g0 1:a 2:a", "record", 5);
        run.due("1", "weight", 5);
        run.due("379/79", "cell", 2, 0, NONE, 0, true);
        run.due("4", "cell", 0, 0, NONE, 0, true);
        run.due("8/79", "weight", 1);
        run.end();
    }

    /** Somebody comes, answers the first two questions, goes to the end and sends. */
    private void sends(int person, int first, int second, int due) {
        comes(person, 0);
        due(1, "answer", person, 0, NONE, first);
        due(2, "answer", person, 1, NONE, second);
        due(END, "go", person);
        due(due, "send", person);
    }

    /** A question gets BARE after it was sent, and is not BARE any more: the records stay as they are. */
    private static void bareAfterwards() {
        RunsTest run = new RunsTest("bare");
        run.due(0, "page");
        run.due(1, "page");
        run.due(0, "question", 0, 0, 2, 0);
        run.due(1, "question", 1, 1, 2, 0);
        run.due(1, "jump", 0, NONE, 1);
        run.due(1, "jump", 1, NONE, END);
        run.throughBoth(0, 0, 3);
        run.due(1, "send", 0);
        run.throughBoth(1, 1, 1);
        run.due(2, "send", 1);
        run.throughBoth(2, 1, 3);
        run.due("1", "cell", 0, 0, NONE, 0, true);
        run.due("2", "apart", 0, 0);
        run.sound();

        // Page 0 is asked for what is chosen on page 1, so nobody is asked anything there the first time.
        run.due(4, "loop", 0, 1, 2);
        run.due(0, "whole");
        run.due("g0 - 0", "reached", 1);
        run.due(ARGUMENT, "cell", 0, 0, NONE, 0, true);
        run.due(ARGUMENT, "rim", 0, 0, 1);
        run.due(STATE, "is", 0, 0, 0);
        run.due("g0 0:a 1:ab", "record", 0);
        run.is(2, 2, END, 1, 2, 2);
        run.due(1, "rim", 1, 3, 5);
        run.due(1, "weigh", 1000);
        run.due("5", "weight", 0);
        run.due("1", "weight", 1);
        run.sound();
        run.due(3, "send", 2);
        run.due("g0 1:ab", "record", 2);
        run.due("6", "cell", 1, 3, NONE, 0, true);
        run.sound();

        // Round once more: the second time the page asks twice.
        run.due(0, "dropJump", 1, 0);
        run.due(0, "is", 1, 0, 1);
        run.due(1, "jump", 1, 0, 0);
        run.due(2, "jump", 1, NONE, END);
        run.due(2, "whole");
        run.due("g0 - 1", "lost", 1);
        run.comes(3, 0);
        run.due(1, "go", 3);
        run.due(1, "answer", 3, 1, NONE, 1);
        run.due(0, "go", 3);
        run.due("p0 q0.0=?", "seen", 3);
        run.due(2, "answer", 3, 0, 0, 1);
        run.due(1, "go", 3);
        run.due(1, "answer", 3, 1, NONE, 3);
        // By the new answer the first time on page 1 leads to the end, and what the second time asked is not asked.
        run.is(3, 2, END, 1, 2, 2);
        run.due(STATE, "answer", 3, 0, 0, 1);
        run.due(4, "send", 3);
        run.due("g0 1:ab", "record", 3);
        run.sound();

        run.due(8, "loop", 0, NONE, 0);
        run.due("1", "cell", 0, 0, NONE, 0, false);
        run.due("5", "cell", 0, 0, NONE, 0, true);
        run.due("7", "cell", 1, 3, NONE, 0, true);
        run.due(1, "cube", 0, 0, 1, 3, 0, 0);
        run.due(0, "cube", 0, 1, 1, 3, 0, 1);
        run.due("2", "apart", 0, 1);
        run.due("g0 0:b 1:a", "record", 1);
        // A question over which page 1 could be looped, if there were no rim about the one there.
        run.due(2, "question", 0, 1, 2, 0);
        run.due(STATE, "loop", 1, 2, 1);
        run.end();
    }

    private void throughBoth(int person, int first, int second) {
        comes(person, 0);
        due(1, "answer", person, 0, NONE, first);
        due(1, "go", person);
        due(2, "answer", person, 1, NONE, second);
        due(END, "go", person);
    }

    /** All eight people, each part of the document, and the last call that is promised. */
    private static void everythingToTheLast() {
        RunsTest run = new RunsTest("all");
        run.due(0, "page");
        run.due(1, "page");
        run.due(0, "question", 0, 0, 2, 0);
        run.due(1, "question", 1, 3, 0, 3);
        run.due(0, "is", 0, 0, 1);
        run.due(16, "groups", 2);
        run.due(1, "jump", 0, NONE, 1);
        run.due(1, "jump", 1, NONE, END);
        run.allCome();
        run.sound();
        for (int person = 0; person < 8; person++) {
            run.due(1, "answer", person, 0, NONE, 0);
            run.due(1, "go", person);
            run.due(2, "answer", person, 1, NONE, person % 4);
            run.due(END, "go", person);
        }
        run.sound();
        run.allChangeWhatTheySaid();
        run.allSend();
        run.tablesOfAll();
        run.formAfterAll();
        Check.same("before the last rounds", run.beside.told.size(), 238);
        for (int round = 0; round < 54; round++) {
            run.due(round + 1, "knock");
            run.due(round % 2 == 1, "turn", 0, round % 2 == 0);
            run.due(15 + round, "count", 4);
            run.due(16 + 15 * round, "pass", 15);
            run.due(round % 7 < 4 ? "1/2" : "2", "weight", round % 7);
        }
        run.due(54, "count", 9);
        run.sound();
        run.unchanged();
        Check.same("the last call that is promised", run.beside.told.size(), PROMISED);
    }

    /** All are invited, and called by their ranks: turn by turn both groups have as many, or the other one has fewer. */
    private void allCome() {
        for (int person = 0; person < 8; person++) {
            due(person + 1, "invite", person, person, person);
        }
        for (int person = 7; person >= 0; person--) {
            due(person, "call");
            due(person % 2, "ofPerson", person, 2);
        }
    }

    /** The second question is asked of those only who take "b" in the first one, and then of all again. */
    private void allChangeWhatTheySaid() {
        due(9, "show", 1, 0);
        due(1, "pass", 1);
        for (int person = 0; person < 8; person++) {
            is(person, 2, END, 1, 2, 2);
        }
        due(255, "remind", 1);
        sound();
        for (int person = 0; person < 8; person++) {
            due(2, "answer", person, 0, NONE, 1);
            due(1, "back", person);
            due(END, "go", person);
        }
        due(10, "show", 1, NONE);
        for (int person = 0; person < 8; person++) {
            due(2, "answer", person, 0, NONE, person / 4);
            due(person % 4, "stands", person, 1, NONE);
        }
        sound();
    }

    private void allSend() {
        due(0, "quota", 0, 3);
        for (int person = 0; person < 7; person++) {
            due(person + 1, "send", person);
        }
        due(3, "count", 10);
        due(-2, "send", 7);
        sound();
        recordsOfAll();
        due("", "record", 7);
    }

    private void recordsOfAll() {
        for (int person = 0; person < 7; person++) {
            String due = "g" + person % 2 + (person < 4 ? " 0:a" : " 0:b") + " 1:" + person % 4;
            due(due, "record", person);
        }
    }

    private void tablesOfAll() {
        due(1, "rim", 0, 0, 2);
        due(1, "rim", 0, 1, 6);
        due(1, "weigh", 1000);
        for (int person = 0; person < 7; person++) {
            due(person < 4 ? "1/2" : "2", "weight", person);
        }
        for (int code = 0; code < 4; code++) {
            due(code < 3 ? "5/2" : "1/2", "cell", 1, code, NONE, 0, true);
            due("1", "cell", 0, 0, 1, code, false);
        }
        due("7/8", "apart", 0, 1);
        due(3, "least", 1);
        due("1,1,1,1;1,1,1,0", "outside", 0, 1);
        due(1, "least", 3);
        due("none", "outside", 0, 1);
        sound();
    }

    /** The form is changed, and told line by line, when nobody is under way any more. */
    private void formAfterAll() {
        due(2, "question", 1, 1, 2, 0);
        due(STATE, "loop", 0, 2, 1);
        due(13, "show", 1, 0);
        due(32, "groups", 1);
        String[] lines = {"page -1 0", "page -1 0", "ask 0 0 2 0 -1 -1 0", "ask 1 3 0 3 0 -1 0", "ask 1 1 2 0 -1 -1 0", "if q0=1",
            "jump 0 -1 1", "jump 1 -1 9", "quota 0 3", "groups 1"};
        due(lines.length, "count", 3);
        for (int line = 0; line < lines.length; line++) {
            due(lines[line], "line", line);
            // All but "quota" begin with another sign than "q".
            due(line == 8 ? NONE : 0, "spoiled", line, 0, 12);
        }
        recordsOfAll();
        sound();
        due(0, "whole");
        due(32, "rows", 0);
        due(32, "rows", 1);
    }
}
