import java.util.ArrayList;
import java.util.HashMap;
import java.util.List;
import java.util.Map;

/**
 * Runs of calls made up by a fixed sequence of numbers, on Askhouse and on the Oracle side by side: each answer, each
 * exception, and, every now and then, all that can be asked must be the same. Beside them, runs that go up to the 512th
 * call, with the form changed while people are under way and after some have sent.
 */
public final class OracleTest {
    private static final int NONE = -1;
    private static final int RUNS = 160;
    private static final int LONG_RUNS = 100;
    /** What an object is promised to be used for. */
    private static final int PROMISED = 512;

    private final long seed;
    private long state;
    private final Beside beside = new Beside();
    private final Oracle oracle = beside.oracle;
    private int limit = Integer.MAX_VALUE;
    /** How often the form was changed with somebody under way and somebody having sent. */
    private int lateChanges;

    private OracleTest(long seed) {
        this.seed = seed;
        this.state = seed * 7919 + 13;
    }

    public static void main(String[] args) {
        int first = args.length > 0 ? Integer.parseInt(args[0]) : 1;
        int last = args.length > 1 ? Integer.parseInt(args[1]) : RUNS;
        int lastLong = args.length > 1 ? last : LONG_RUNS;
        int wrong = 0;
        int lateChanges = 0;
        Map<String, Integer> seen = new HashMap<>();
        for (int seed = first; seed <= Math.max(last, lastLong) && wrong < 5; seed++) {
            if (seed <= last) {
                OracleTest run = new OracleTest(seed);
                run.play();
                wrong += run.beside.isSame ? 0 : 1;
                note(seen, run);
            }
            if (seed <= lastLong) {
                OracleTest run = new OracleTest(seed);
                run.playLong();
                wrong += run.beside.isSame && run.beside.told.size() == PROMISED ? 0 : 1;
                lateChanges += run.lateChanges;
                note(seen, run);
            }
        }
        if (args.length > 2) {
            seen.entrySet().stream().sorted(Map.Entry.comparingByKey()).forEach(System.out::println);
            System.out.println(lateChanges + " late changes in the long runs");
        }
        boolean areLate = lateChanges > 10 * (lastLong - first + 1);
        System.out.println(wrong == 0 ? areLate ? "as the oracle says" : "too few late changes" : "not as the oracle says");
        if (wrong != 0 || !areLate) {
            System.exit(1);
        }
    }

    /** How often each call answered what: a number, an exception, or something. */
    private static void note(Map<String, Integer> seen, OracleTest run) {
        for (String line : run.beside.told) {
            String key = line.replaceAll("\\(.*\\) -> ", " ").replaceAll("throws\\.", "!").replaceAll(" ([^!-]|-\\d{4}).*", " answers");
            seen.merge(key, 1, Integer::sum);
        }
    }

    // ---- numbers

    private int below(int bound) {
        state = state * 6364136223846793005L + 1442695040888963407L;
        return (int) Long.remainderUnsigned(state >>> 33, bound);
    }

    private boolean oneIn(int many) {
        return below(many) == 0;
    }

    private int between(int from, int to) {
        return from + below(to - from + 1);
    }

    private int any(int count) {
        if (oneIn(25)) {
            int[] odd = {-2, NONE, count, count + 1, 9, 100, Integer.MAX_VALUE, Integer.MIN_VALUE};
            return odd[below(odd.length)];
        }
        return count == 0 ? 0 : below(count);
    }

    private int bounded(int from, int to) {
        if (oneIn(25)) {
            int[] odd = {from - 1, to + 1, Integer.MAX_VALUE, Integer.MIN_VALUE, from, to};
            return odd[below(odd.length)];
        }
        return between(from, to);
    }

    private int orNone(int count) {
        return oneIn(3) ? NONE : any(count);
    }

    // ---- one run

    private void play() {
        if (seed % 2 == 0) {
            playCrowd();
            return;
        }
        int shape = below(4);
        int length = between(60, 300);
        boolean isEarly = shape == 3;
        for (int k = 0; k < length && isOpen(); k++) {
            boolean isForm = isEarly ? oneIn(2) : k < 15 + length / 6 || oneIn(12);
            if (isForm) {
                form(shape);
            } else if (oneIn(6)) {
                look();
            } else {
                person();
            }
            if (oneIn(150)) {
                compareAll();
            }
        }
        compareAll();
    }

    /** A form that leads to the end, with everybody invited, called, and mostly sending: for the tables. */
    private void playCrowd() {
        makeForm();
        for (int k = 0; k < 8; k++) {
            same("invite", k, between(0, 9), between(0, 99));
        }
        int busy = between(4, 8);
        for (int k = 0; k < busy; k++) {
            same("call");
        }
        for (int round = 0; round < 25 && isOpen(); round++) {
            for (int person = 0; person < 8; person++) {
                moveOn(person);
            }
            if (oneIn(12)) {
                form(0);
            }
            for (int k = 0; k < 3; k++) {
                look();
            }
            if (round > 4) {
                weigh();
            }
            if (oneIn(5)) {
                same("least", between(1, 3));
            }
            if (oneIn(5)) {
                same("pass", between(1, 9));
                same("remind", between(0, 9));
            }
        }
        compareAll();
    }

    /** As many calls as are promised: people come, move on and send one by one, while the form goes on changing. */
    private void playLong() {
        limit = PROMISED;
        makeForm();
        while (isOpen()) {
            switch (below(10)) {
                case 0: case 1: case 2: case 3:
                    come(below(8));
                    break;
                case 4: case 5:
                    form(below(4));
                    break;
                case 6:
                    person();
                    break;
                case 7:
                    look();
                    break;
                case 8:
                    weigh();
                    break;
                default:
                    same("isSound");
                    same("digest");
                    break;
            }
        }
    }

    private void makeForm() {
        int pages = between(1, 3);
        for (int k = 0; k < pages; k++) {
            same("page");
        }
        int[][] kinds = {{0, 2, 0}, {0, 3, 0}, {1, 2, 0}, {1, 3, 1}, {2, 2, 0}, {3, 4, 6}, {6, 1, 3}, {4, 40, 0}, {5, 0, 0}};
        int questions = between(1, 5);
        for (int k = 0; k < questions; k++) {
            int[] kind = kinds[below(kinds.length)];
            same("question", below(pages), kind[0], kind[1], kind[2]);
        }
        if (oneIn(3)) {
            same("loop", below(pages), below(questions), between(1, 4));
        }
        for (int k = 0; k < between(0, 4); k++) {
            same("is", below(questions), between(0, 3), between(0, 2));
        }
        same("groups", between(1, 3));
        for (int k = 0; k < pages; k++) {
            if (oneIn(3)) {
                same("jump", k, orNone(oracle.conditions.size()), oneIn(2) ? 9 : below(pages));
            }
            same("jump", k, NONE, k + 1 < pages ? k + 1 : oneIn(6) ? 0 : 9);
        }
        for (int k = 0; k < between(0, 3); k++) {
            form(0);
        }
    }

    /** Invites or calls, or moves on whoever has begun; who did all that is the time for another form. */
    private void come(int person) {
        switch (oracle.ofPerson(person, 0)) {
            case 0:
                same("invite", person, between(0, 9), between(0, 99));
                break;
            case 1:
                same("call");
                break;
            case 2:
                moveOn(person);
                break;
            default:
                form(below(4));
                break;
        }
    }

    /** Somebody answers what he is asked, and goes on or sends. */
    private void moveOn(int person) {
        for (int key : oracle.askedOf(person)) {
            if (oracle.stands(person, key / 10, key % 10 - 1) == NONE || oneIn(20)) {
                Oracle.Q question = oracle.questions.get(key / 10);
                int code = below(question.kind == 5 ? 1300 : question.kind == 4 ? 256 : 3);
                for (int k = 0; k < 5000 && Oracle.text(question, code) == null; k++) {
                    code = below(question.kind == 5 ? 1300 : question.kind == 4 ? 256 : 16);
                }
                same("answer", person, key / 10, key % 10 - 1, code);
            }
        }
        if (oneIn(9)) {
            same("back", person);
        }
        if (oneIn(9)) {
            same("wipe", person, below(Math.max(1, oracle.questions.size())), oneIn(3) ? between(0, 3) : NONE);
        }
        same(oracle.ofPerson(person, 1) == 9 && !oneIn(3) ? "send" : "go", person);
    }

    private void weigh() {
        same("rim", any(oracle.questions.size()), between(0, 2), between(1, oneIn(2) ? 9 : 99));
        same("weigh", oneIn(2) ? between(1, 3) : between(1, 1000));
    }

    private void form(int shape) {
        int pages = oracle.pages.size();
        int questions = oracle.questions.size();
        int conditions = oracle.conditions.size();
        if (pages == 0 && !oneIn(8) || pages < (shape == 0 ? 1 : 3) && oneIn(3)) {
            same("page");
            return;
        }
        switch (below(shape == 0 ? 14 : 18)) {
            case 0: case 1: case 2:
                int kind = bounded(0, 6);
                int[] lowest = {2, 2, 2, -50, 0, 0, 1};
                int[] highest = {5, 4, 3, 50, 80, 0, 2};
                int a = kind < 0 || kind > 6 ? 2 : bounded(lowest[kind], highest[kind]);
                int b = kind == 1 ? bounded(0, Math.max(a, 0)) : kind == 3 ? bounded(a + 1, a + (oneIn(3) ? 9 : 3))
                    : kind == 6 ? bounded(2, 3) : bounded(0, 0);
                same("question", any(pages), kind, a, b);
                break;
            case 3: case 4: {
                int question = any(questions);
                int how = bounded(0, 4);
                same("is", question, how, oneIn(15) ? bounded(0, 99) : bounded(0, 4));
                break;
            }
            case 5:
                same("inGroup", bounded(0, 2));
                break;
            case 6:
                same("join", any(conditions), any(conditions), oneIn(2));
                break;
            case 7:
                same("not", any(conditions));
                break;
            case 8: case 9: case 10: {
                int target = oneIn(shape == 0 ? 1 : 3) ? 9 : any(pages);
                same("jump", any(pages), orNone(conditions), target);
                break;
            }
            case 11:
                same("groups", bounded(1, 3));
                break;
            case 12:
                same("show", any(questions), orNone(conditions));
                break;
            case 13:
                if (oneIn(2)) {
                    same("quota", any(conditions), bounded(1, oneIn(2) ? 2 : 8));
                } else {
                    same("turn", any(questions), oneIn(2));
                }
                break;
            case 14:
                if (oneIn(2)) {
                    same("check", any(pages), any(conditions));
                } else {
                    same("dropJump", any(pages), any(3));
                }
                break;
            case 15:
                same("place", any(questions), orNone(questions));
                break;
            case 16: {
                int question = orNone(questions);
                for (int k = 0; k < questions && !oneIn(5); k++) {
                    if (oracle.questions.get(k).kind == 1) {
                        question = k;
                    }
                }
                same("loop", any(pages), question, question == NONE && !oneIn(9) ? 0 : bounded(1, 4));
                break;
            }
            default:
                same("page");
                break;
        }
    }

    private void person() {
        int questions = oracle.questions.size();
        int person = oneIn(3) ? any(8) : below(2);
        switch (below(12)) {
            case 0:
                same("invite", person, bounded(0, 9), bounded(0, 99));
                break;
            case 1:
                same("call");
                break;
            case 2: case 3: case 4: case 5:
                answer(person);
                break;
            case 6: case 7: case 8:
                for (int k = 0; k < 5; k++) {
                    answer(person);
                }
                same("go", person);
                break;
            case 9:
                same("send", person);
                break;
            case 10:
                if (oneIn(4)) {
                    same("back", person);
                } else if (oneIn(3)) {
                    same("wipe", person, any(questions), oneIn(2) ? NONE : bounded(0, 3));
                } else {
                    same("go", person);
                }
                break;
            default:
                switch (below(4)) {
                    case 0: same("pass", bounded(1, 30)); break;
                    case 1: same("remind", bounded(0, oneIn(2) ? 3 : 30)); break;
                    case 2: same("knock"); break;
                    default:
                        same("type", person, any(questions), oneIn(3) ? bounded(-999, 999) : bounded(-50, 59), bounded(0, 5));
                        break;
                }
                break;
        }
    }

    private void answer(int person) {
        int questions = oracle.questions.size();
        List<Integer> asked = person >= 0 && person < 8 ? oracle.askedOf(person) : new ArrayList<>();
        if (asked.isEmpty() || oneIn(12)) {
            same("answer", person, any(questions), oneIn(2) ? NONE : bounded(0, 4), bounded(0, 20));
            return;
        }
        int key = asked.get(below(asked.size()));
        Oracle.Q question = oracle.questions.get(key / 10);
        int code = below(16);
        if (question.kind == 3 && oneIn(2)) {
            same("type", person, key / 10, question.a + between(-1, 10), bounded(0, 5));
            return;
        }
        if (question.kind >= 4 || !oneIn(20)) {
            for (int k = 0; k < 5000 && Oracle.text(question, code) == null; k++) {
                code = below(question.kind == 5 ? 1300 : question.kind == 4 ? 256 : 16);
            }
        }
        same("answer", person, key / 10, key % 10 - 1, code);
    }

    private void look() {
        int questions = oracle.questions.size();
        int person = any(8);
        switch (below(14)) {
            case 0: same("ofPerson", person, bounded(0, 8)); break;
            case 1: same("stands", person, any(questions), bounded(-1, 3)); break;
            case 2: same("choices", person, any(questions)); break;
            case 3: same("cell", any(questions), bounded(0, 9), orNone(questions), bounded(0, 9), oneIn(2)); break;
            case 4:
                same("cube", any(questions), bounded(0, 4), any(questions), bounded(0, 4), any(questions), bounded(0, 4));
                break;
            case 5: case 6: same("rim", any(questions), bounded(0, 4), bounded(1, 99)); break;
            case 7: same("weigh", oneIn(2) ? bounded(1, 3) : bounded(1, 1000)); break;
            case 8: same("least", bounded(1, 8)); break;
            case 9: same("apart", any(questions), any(questions)); break;
            case 10: same("outside", any(questions), any(questions)); break;
            case 11: same("path", oneIn(5) ? bounded(0, 599) : any(Math.max(1, oracle.rows(0)))); break;
            case 12: same("spoiled", any(oracle.lines().size()), any(20), bounded(0, 17)); break;
            default: same("seen", person); break;
        }
    }

    /** All that can be asked. */
    private void compareAll() {
        int pages = oracle.pages.size();
        int questions = oracle.questions.size();
        for (int k = -1; k <= 14; k++) {
            same("count", k);
        }
        same("whole");
        same("lost", 0);
        same("lost", 1);
        for (int k = 0; k <= pages; k++) {
            same("reached", k);
        }
        for (int k = 0; k < 4; k++) {
            same("rows", k);
        }
        int rows = oracle.rows(0);
        for (int k = 0; k <= rows; k += k < 40 || k > rows - 5 ? 1 : 7) {
            same("path", k);
        }
        for (int person = 0; person < 8; person++) {
            for (int what = 0; what < 9; what++) {
                same("ofPerson", person, what);
            }
            same("seen", person);
            same("record", person);
            same("weight", person);
            for (int question = 0; question < questions; question++) {
                same("choices", person, question);
                for (int option = -2; option < 5; option++) {
                    same("stands", person, question, option);
                }
            }
        }
        for (int one = 0; one < questions; one++) {
            for (int code = -1; code < 10; code++) {
                same("cell", one, code, NONE, 0, true);
            }
            for (int other = 0; other < questions; other++) {
                same("apart", one, other);
                same("outside", one, other);
                same("cell", one, 0, other, 1, true);
                same("cell", one, 1, other, 0, false);
            }
        }
        int lines = oracle.lines().size();
        for (int line = 0; line <= lines; line++) {
            same("line", line);
        }
        for (int k = 0; k < 150; k++) {
            int line = below(lines);
            same("spoiled", line, below(oracle.line(line).length()), below(18));
        }
        same("isSound");
        same("digest");
    }

    // ---- side by side

    private boolean isOpen() {
        return beside.isSame && beside.told.size() < limit;
    }

    private void same(String name, Object... args) {
        if (!isOpen()) {
            return;
        }
        int version = oracle.version;
        beside.ask(name, args);
        if (oracle.version > version && oracle.count(5) > 0 && oracle.howMany(2) > 0) {
            lateChanges++;
        }
        if (!beside.isSame) {
            beside.tell("seed " + seed);
        }
    }
}
