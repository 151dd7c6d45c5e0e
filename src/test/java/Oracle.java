import java.math.BigInteger;
import java.util.ArrayList;
import java.util.Arrays;
import java.util.Collections;
import java.util.HashMap;
import java.util.List;
import java.util.Map;
import java.util.TreeMap;

/**
 * The document once more, told in another way (maps, lists, regular expressions, BigInteger), with no care for speed:
 * what Askhouse answers is compared with what this one does.
 */
final class Oracle {
    private static final int NONE = -1;
    private static final int END = 9;

    static final class Q {
        int page;
        int kind;
        int a;
        int b;
        int show = NONE;
        int place = NONE;
        boolean turned;
        int fitting;
    }

    static final class P {
        final List<int[]> jumps = new ArrayList<>();
        int loop = NONE;
        int most = 0;
    }

    /** A condition as its text, with what is so told by reading that text. */
    static final class C {
        String text;
        int leaves;
    }

    static final class H {
        int state;
        int rank;
        int seed = NONE;
        int group = NONE;
        int cursor;
        int reminded;
        int last;
        final TreeMap<Integer, Integer> kept = new TreeMap<>();
        TreeMap<Integer, Integer> record = new TreeMap<>();
        BigInteger top = BigInteger.ONE;
        BigInteger bottom = BigInteger.ONE;
    }

    /** Where a walk ends: keys of answers are question * 10 + option + 1. */
    static final class W {
        final List<Integer> pages = new ArrayList<>();
        final TreeMap<Integer, Integer> standing = new TreeMap<>();
        final List<Integer> asked = new ArrayList<>();

        int here() {
            return pages.get(pages.size() - 1);
        }

        int steps() {
            return pages.size() - 1;
        }
    }

    final List<P> pages = new ArrayList<>();
    final List<Q> questions = new ArrayList<>();
    final List<C> conditions = new ArrayList<>();
    final List<int[]> checks = new ArrayList<>();
    final List<int[]> quotas = new ArrayList<>();
    final H[] people = new H[8];
    final List<Integer> rims = new ArrayList<>();
    final Map<Integer, TreeMap<Integer, Integer>> targets = new HashMap<>();
    int groups = 1;
    int version;
    int day;
    int refused;
    int least = 3;

    Oracle() {
        for (int k = 0; k < 8; k++) {
            people[k] = new H();
        }
    }

    // ---- helpers

    private static void index(boolean isRight) {
        if (!isRight) {
            throw new IndexOutOfBoundsException();
        }
    }

    private static void argument(boolean isRight) {
        if (!isRight) {
            throw new IllegalArgumentException();
        }
    }

    private static void state(boolean isRight) {
        if (!isRight) {
            throw new IllegalStateException();
        }
    }

    private static boolean in(int number, int from, int to) {
        return from <= number && number <= to;
    }

    private boolean isPage(int page) {
        return in(page, 0, pages.size() - 1);
    }

    private boolean isQuestion(int question) {
        return in(question, 0, questions.size() - 1);
    }

    private boolean isCondition(int condition) {
        return in(condition, 0, conditions.size() - 1);
    }

    private static boolean isKind(int kind, int a, int b) {
        int[][] bounds = {{2, 5, 0, 0}, {2, 4, 0, a}, {2, 3, 0, 0}, {-50, 50, a + 1, a + 9}, {0, 80, 0, 0}, {0, 0, 0, 0},
            {1, 2, 2, 3}};
        return in(kind, 0, 6) && in(a, bounds[kind][0], bounds[kind][1]) && in(b, bounds[kind][2], bounds[kind][3]);
    }

    private static List<String> orders(int things) {
        List<String> all = new ArrayList<>();
        String letters = "abc".substring(0, things);
        permute("", letters, all);
        Collections.sort(all);
        return all;
    }

    private static void permute(String done, String rest, List<String> all) {
        if (rest.isEmpty()) {
            all.add(done);
        }
        for (int k = 0; k < rest.length(); k++) {
            permute(done + rest.charAt(k), rest.substring(0, k) + rest.substring(k + 1), all);
        }
    }

    private static int size(Q q) {
        switch (q.kind) {
            case 0: return q.a;
            case 1: return (int) Math.pow(2, q.a);
            case 2: return orders(q.a).size();
            case 3: return q.b - q.a + 1;
            case 6: return (int) Math.pow(q.b, q.a);
            default: return 0;
        }
    }

    private static String inBase(int number, int base, int digits) {
        String told = Integer.toString(number, base);
        while (told.length() < digits) {
            told = "0" + told;
        }
        return told;
    }

    /** The text of an answer; null, if the code does not fit. */
    static String text(Q q, int code) {
        if (code < 0) {
            return null;
        }
        if (q.kind == 4) {
            if (code > 255) {
                return null;
            }
            String told = inBase(code, 4, 4).replace('0', 'a').replace('1', '7').replace('3', 'z').replace('2', '-');
            StringBuilder exact = new StringBuilder();
            for (char sign : inBase(q.a, 3, 4).toCharArray()) {
                exact.append(sign == '0' ? "[0-9]" : sign == '1' ? "[a-z]" : "-");
            }
            return told.matches(exact.toString()) ? told : null;
        }
        if (q.kind == 5) {
            try {
                java.time.LocalDate.of(2024, code / 100, code % 100);
            } catch (java.time.DateTimeException e) {
                return null;
            }
            return code / 100 + "/" + code % 100;
        }
        if (code >= size(q)) {
            return null;
        }
        String letters = "abcdefgh";
        switch (q.kind) {
            case 0:
                return letters.substring(code, code + 1);
            case 1:
                String chosen = "";
                for (int k = 0; k < q.a; k++) {
                    if (code / (int) Math.pow(2, k) % 2 == 1) {
                        chosen += letters.charAt(k);
                    }
                }
                return chosen.length() < q.b ? null : chosen.isEmpty() ? "." : chosen;
            case 2:
                return orders(q.a).get(code);
            case 3:
                return String.valueOf(q.a + code);
            default:
                String told = "";
                for (char digit : inBase(code, q.b, q.a).toCharArray()) {
                    told += letters.charAt(digit - '0');
                }
                return told;
        }
    }

    private boolean isBare(int question) {
        Q q = questions.get(question);
        return q.kind == 4 || q.kind == 5 || pages.get(q.page).loop != NONE;
    }

    private long rowCount() {
        long rows = groups;
        for (int k = 0; k < questions.size(); k++) {
            rows *= isBare(k) ? 1 : size(questions.get(k));
        }
        return rows;
    }

    // ---- whether a condition is so, by its text

    private boolean isSo(int condition, Map<Integer, Integer> standing, int group) {
        if (condition == NONE) {
            return true;
        }
        String text = conditions.get(condition).text;
        StringBuilder flat = new StringBuilder();
        for (int k = 0; k < text.length(); k++) {
            char sign = text.charAt(k);
            if (sign != 'q' && sign != 'g') {
                flat.append(sign);
                continue;
            }
            int end = k + 1;
            while (end < text.length() && ")&|".indexOf(text.charAt(end)) < 0) {
                end++;
            }
            flat.append(isLeafSo(text.substring(k, end), standing, group) ? 'T' : 'F');
            k = end - 1;
        }
        String rest = flat.toString();
        while (rest.length() > 1) {
            String before = rest;
            rest = rest.replace("!T", "F").replace("!F", "T").replace("(T&T)", "T").replace("(T&F)", "F")
                .replace("(F&T)", "F").replace("(F&F)", "F").replace("(T|T)", "T").replace("(T|F)", "T")
                .replace("(F|T)", "T").replace("(F|F)", "F");
            if (rest.equals(before)) {
                throw new AssertionError("no condition: " + text);
            }
        }
        return rest.equals("T");
    }

    private static boolean isLeafSo(String leaf, Map<Integer, Integer> standing, int group) {
        if (leaf.charAt(0) == 'g') {
            return group == Integer.parseInt(leaf.substring(2));
        }
        Integer code = standing.get((leaf.charAt(1) - '0') * 10);
        if (code == null) {
            return false;
        }
        int value = Integer.parseInt(leaf.substring(3));
        switch (leaf.charAt(2)) {
            case '=': return code == value;
            case '#': return code != value;
            case '<': return code < value;
            case '>': return code >= value;
            default: return value < 20 && code / (int) Math.pow(2, value) % 2 == 1;
        }
    }

    // ---- walks

    private W walk(Map<Integer, Integer> kept, int group, int limit) {
        W w = new W();
        w.pages.add(0);
        ask(w, kept, group);
        while (w.steps() < limit && w.here() != END) {
            int way = way(w, group);
            if (way < 0) {
                break;
            }
            w.pages.add(way);
            ask(w, kept, group);
        }
        return w;
    }

    private void ask(W w, Map<Integer, Integer> kept, int group) {
        if (!isPage(w.here())) {
            return;
        }
        P page = pages.get(w.here());
        List<Integer> options = new ArrayList<>();
        if (page.loop == NONE) {
            options.add(NONE);
        } else {
            Integer chosen = w.standing.get(page.loop * 10);
            for (int thing = 0; thing < 4 && chosen != null && options.size() < page.most; thing++) {
                if (Integer.toBinaryString(chosen + 16).charAt(4 - thing) == '1') {
                    options.add(thing);
                }
            }
        }
        for (int q = 0; q < questions.size(); q++) {
            if (questions.get(q).page != w.here()) {
                continue;
            }
            boolean shown = isSo(questions.get(q).show, w.standing, group);
            for (int option = NONE; option < 4; option++) {
                Integer key = q * 10 + option + 1;
                w.asked.remove(key);
                w.standing.remove(key);
                if (shown && options.contains(option)) {
                    w.asked.add(key);
                    if (kept.containsKey(key) && text(questions.get(q), kept.get(key)) != null) {
                        w.standing.put(key, kept.get(key));
                    }
                }
            }
        }
        Collections.sort(w.asked);
    }

    private int way(W w, int group) {
        for (int key : w.asked) {
            if (questions.get(key / 10).page == w.here() && !w.standing.containsKey(key)) {
                return -2 - key / 10;
            }
        }
        for (int k = 0; k < checks.size(); k++) {
            if (checks.get(k)[0] == w.here() && !isSo(checks.get(k)[1], w.standing, group)) {
                return -20 - k;
            }
        }
        if (isPage(w.here())) {
            for (int[] jump : pages.get(w.here()).jumps) {
                if (isSo(jump[0], w.standing, group)) {
                    return jump[1];
                }
            }
        }
        return -40;
    }

    /** What somebody who has begun is asked; nobody else is asked anything. */
    List<Integer> askedOf(int person) {
        return people[person].state == 2 ? walkOf(people[person]).asked : new ArrayList<>();
    }

    private W walkOf(H h) {
        return walk(h.kept, h.group, h.cursor);
    }

    // ---- the form

    int page() {
        state(pages.size() < 6);
        pages.add(new P());
        version++;
        return pages.size() - 1;
    }

    int question(int page, int kind, int a, int b) {
        index(isPage(page));
        argument(isKind(kind, a, b));
        state(questions.size() < 6);
        Q q = new Q();
        q.page = page;
        q.kind = kind;
        q.a = a;
        q.b = b;
        questions.add(q);
        if (rowCount() > 600) {
            questions.remove(questions.size() - 1);
            state(false);
        }
        version++;
        return questions.size() - 1;
    }

    private int condition(String text, int leaves) {
        state(conditions.size() < 16);
        C c = new C();
        c.text = text;
        c.leaves = leaves;
        conditions.add(c);
        version++;
        return conditions.size() - 1;
    }

    int is(int question, int how, int value) {
        index(isQuestion(question));
        argument(in(how, 0, 4) && in(value, 0, 99) && (how != 4 || questions.get(question).kind == 1));
        state(!isBare(question));
        return condition("q" + question + "=#<>~".charAt(how) + value, 1);
    }

    int inGroup(int value) {
        argument(in(value, 0, 2));
        return condition("g=" + value, 1);
    }

    int join(int a, int b, boolean isBoth) {
        index(isCondition(a) && isCondition(b));
        C one = conditions.get(a);
        C other = conditions.get(b);
        state(one.leaves + other.leaves <= 8);
        return condition("(" + one.text + (isBoth ? "&" : "|") + other.text + ")", one.leaves + other.leaves);
    }

    int not(int a) {
        index(isCondition(a));
        return condition("!" + conditions.get(a).text, conditions.get(a).leaves);
    }

    int show(int question, int condition) {
        index(isQuestion(question) && (condition == NONE || isCondition(condition)));
        questions.get(question).show = condition;
        return ++version;
    }

    int jump(int page, int condition, int target) {
        index(isPage(page) && (target == END || isPage(target)) && (condition == NONE || isCondition(condition)));
        state(pages.get(page).jumps.size() < 3);
        pages.get(page).jumps.add(new int[] {condition, target});
        version++;
        return pages.get(page).jumps.size();
    }

    int dropJump(int page, int k) {
        index(isPage(page) && in(k, 0, pages.get(page).jumps.size() - 1));
        pages.get(page).jumps.remove(k);
        version++;
        return pages.get(page).jumps.size();
    }

    int check(int page, int condition) {
        index(isPage(page) && isCondition(condition));
        state(checks.size() < 4);
        checks.add(new int[] {page, condition});
        version++;
        return checks.size() - 1;
    }

    int quota(int condition, int limit) {
        index(isCondition(condition));
        argument(in(limit, 1, 8));
        state(quotas.size() < 4);
        quotas.add(new int[] {condition, limit, 0});
        version++;
        return quotas.size() - 1;
    }

    int place(int question, int other) {
        index(isQuestion(question) && (other == NONE || isQuestion(other)));
        argument(question != other);
        questions.get(question).place = other;
        return ++version;
    }

    boolean turn(int question, boolean isTurned) {
        index(isQuestion(question));
        boolean was = questions.get(question).turned;
        questions.get(question).turned = isTurned;
        version++;
        return was;
    }

    int loop(int page, int question, int most) {
        index(isPage(page) && (question == NONE || isQuestion(question)));
        if (question == NONE) {
            argument(most == 0);
        } else {
            argument(questions.get(question).kind == 1 && questions.get(question).page != page && in(most, 1, 4));
            for (int q = 0; q < questions.size(); q++) {
                if (questions.get(q).page == page) {
                    state(!rims.contains(q));
                    for (C c : conditions) {
                        state(!c.text.contains("q" + q));
                    }
                }
            }
        }
        P p = pages.get(page);
        int oldLoop = p.loop;
        p.loop = question;
        if (rowCount() > 600) {
            p.loop = oldLoop;
            state(false);
        }
        p.most = most;
        version++;
        return (int) rowCount();
    }

    int groups(int many) {
        argument(in(many, 1, 3));
        state(rowCount() / groups * many <= 600);
        groups = many;
        version++;
        return (int) rowCount();
    }

    // ---- people

    private H person(int person) {
        index(in(person, 0, 7));
        return people[person];
    }

    int howMany(int state) {
        return (int) Arrays.stream(people).filter(h -> h.state == state).count();
    }

    int invite(int person, int rank, int seed) {
        H h = person(person);
        argument(in(rank, 0, 9) && in(seed, 0, 99));
        state(h.state == 0);
        h.state = 1;
        h.rank = rank;
        h.seed = seed;
        return howMany(1);
    }

    int call() {
        int next = NONE;
        for (int rank = 0; rank <= 9; rank++) {
            for (int k = 7; k >= 0; k--) {
                if (people[k].state == 1 && people[k].rank == rank) {
                    next = k;
                }
            }
        }
        if (next == NONE) {
            return NONE;
        }
        TreeMap<Integer, List<Integer>> byCount = new TreeMap<>();
        for (int group = 0; group < groups; group++) {
            int many = 0;
            for (H h : people) {
                many += h.group == group ? 1 : 0;
            }
            byCount.computeIfAbsent(many, key -> new ArrayList<>()).add(group);
        }
        List<Integer> fewest = byCount.firstEntry().getValue();
        H h = people[next];
        h.group = fewest.get(h.seed % fewest.size());
        h.state = 2;
        h.last = day;
        return next;
    }

    private H begun(int person) {
        state(people[person].state == 2);
        return people[person];
    }

    private int accept(H h, int question, int option, int code) {
        state(in(option, NONE, 3) && walkOf(h).asked.contains(question * 10 + option + 1));
        if (text(questions.get(question), code) == null) {
            return -9;
        }
        h.kept.put(question * 10 + option + 1, code);
        h.last = day;
        return walkOf(h).standing.size();
    }

    int answer(int person, int question, int option, int code) {
        person(person);
        index(isQuestion(question));
        return accept(begun(person), question, option, code);
    }

    int type(int person, int question, int value, int form) {
        person(person);
        index(isQuestion(question));
        argument(in(value, -999, 999) && in(form, 0, 5) && questions.get(question).kind == 3);
        String typed = new String[] {"" + value, "+" + value, "0" + value, value + " ", value + "x", ""}[form];
        H h = begun(person);
        int code = typed.matches("[+-]?[0-9]+") ? Integer.parseInt(typed) - questions.get(question).a : NONE;
        return accept(h, question, NONE, code);
    }

    int wipe(int person, int question, int option) {
        person(person);
        index(isQuestion(question));
        H h = begun(person);
        state(in(option, NONE, 3) && h.kept.containsKey(question * 10 + option + 1));
        h.kept.remove(question * 10 + option + 1);
        h.last = day;
        return walkOf(h).standing.size();
    }

    int go(int person) {
        person(person);
        H h = begun(person);
        W w = walkOf(h);
        state(w.here() != END && w.steps() < 20);
        int way = way(w, h.group);
        if (way < 0) {
            return way;
        }
        h.cursor = w.steps() + 1;
        h.last = day;
        return walkOf(h).here();
    }

    int back(int person) {
        person(person);
        H h = begun(person);
        W w = walkOf(h);
        state(w.steps() > 0);
        h.cursor = w.steps() - 1;
        h.last = day;
        return walkOf(h).here();
    }

    int send(int person) {
        person(person);
        H h = begun(person);
        W w = walkOf(h);
        state(w.here() == END);
        for (int k = 0; k < quotas.size(); k++) {
            int[] quota = quotas.get(k);
            if (isSo(quota[0], w.standing, h.group) && quota[2] == quota[1]) {
                h.state = 4;
                return -2 - k;
            }
        }
        for (int[] quota : quotas) {
            quota[2] += isSo(quota[0], w.standing, h.group) ? 1 : 0;
        }
        h.state = 3;
        h.record = w.standing;
        return howMany(3);
    }

    int pass(int days) {
        argument(in(days, 1, 30));
        state(day + days <= 1000);
        return day += days;
    }

    int remind(int days) {
        argument(in(days, 0, 30));
        int set = 0;
        for (int k = 0; k < 8; k++) {
            H h = people[k];
            if (h.state == 2 && day - h.last >= days && h.reminded < 2) {
                h.reminded++;
                set += (int) Math.pow(2, k);
            }
        }
        return set;
    }

    int knock() {
        return ++refused;
    }

    // ---- what people see

    private Map<Integer, Integer> standing(H h) {
        return h.state == 2 ? walkOf(h).standing : h.state == 3 ? h.record : new TreeMap<>();
    }

    int ofPerson(int person, int what) {
        H h = person(person);
        argument(in(what, 0, 8));
        boolean isHere = h.state == 2;
        int[] told = {h.state, isHere ? walkOf(h).here() : NONE, h.group, h.seed, h.reminded, h.state < 2 ? 0 : day - h.last,
            standing(h).size(), h.kept.size(), isHere ? walkOf(h).steps() : 0};
        return told[what];
    }

    int stands(int person, int question, int option) {
        H h = person(person);
        index(isQuestion(question));
        return in(option, NONE, 3) ? standing(h).getOrDefault(question * 10 + option + 1, NONE) : NONE;
    }

    String seen(int person) {
        H h = person(person);
        if (h.state != 2) {
            return "";
        }
        W w = walkOf(h);
        if (w.here() == END) {
            return "end";
        }
        String told = "p" + w.here();
        for (int key : w.asked) {
            Q q = questions.get(key / 10);
            if (q.page != w.here()) {
                continue;
            }
            told += " q" + key / 10 + (key % 10 == 0 ? "" : "." + (key % 10 - 1));
            if (q.place != NONE) {
                Integer placed = w.standing.get(q.place * 10);
                told += "[" + (placed == null ? "-" : text(questions.get(q.place), placed)) + "]";
            }
            told += "=" + (w.standing.containsKey(key) ? text(q, w.standing.get(key)) : "?");
        }
        return told;
    }

    String choices(int person, int question) {
        H h = person(person);
        index(isQuestion(question));
        Q q = questions.get(question);
        argument(q.kind <= 2);
        state(h.state > 0);
        String letters = "abcde".substring(0, q.a);
        int by = q.turned ? h.seed % q.a : 0;
        return letters.substring(by) + letters.substring(0, by);
    }

    String record(int person) {
        H h = person(person);
        if (h.state != 3) {
            return "";
        }
        String told = "g" + h.group;
        for (Map.Entry<Integer, Integer> each : h.record.entrySet()) {
            int key = each.getKey();
            told += " " + key / 10 + (key % 10 == 0 ? "" : "." + (key % 10 - 1)) + ":"
                + text(questions.get(key / 10), each.getValue());
        }
        return told;
    }

    // ---- wholeness

    static final class Row {
        String text;
        String path;
        boolean fits;
        boolean ends;
        boolean nowhere;
        boolean round;
    }

    private List<Row> rowsThen = new ArrayList<>();
    private int versionThen = NONE;

    private List<Row> allRows() {
        if (versionThen != version) {
            rowsThen = newRows();
            versionThen = version;
        }
        return rowsThen;
    }

    private List<Row> newRows() {
        List<int[]> combos = new ArrayList<>();
        for (int group = 0; group < groups; group++) {
            combos.add(new int[] {group});
        }
        for (int q = 0; q < questions.size(); q++) {
            List<int[]> longer = new ArrayList<>();
            for (int[] combo : combos) {
                for (int code = 0; code < (isBare(q) ? 1 : size(questions.get(q))); code++) {
                    int[] next = Arrays.copyOf(combo, combo.length + 1);
                    next[combo.length] = isBare(q) ? NONE : code;
                    longer.add(next);
                }
            }
            combos = longer;
        }
        List<Row> rows = new ArrayList<>();
        for (int[] combo : combos) {
            rows.add(row(combo));
        }
        return rows;
    }

    /** The first code that fits, sought once, as neither kind nor A nor B ever change. */
    private static int fitting(Q q) {
        while (text(q, q.fitting) == null) {
            q.fitting++;
        }
        return q.fitting;
    }

    private Row row(int[] combo) {
        Row row = new Row();
        row.text = "g" + combo[0];
        TreeMap<Integer, Integer> kept = new TreeMap<>();
        for (int q = 0; q < questions.size(); q++) {
            int code = combo[q + 1];
            row.text += " " + (code == NONE ? "-" : "" + code);
            if (code == NONE) {
                for (int option = 0; option < 5; option++) {
                    kept.put(q * 10 + option, fitting(questions.get(q)));
                }
            } else {
                kept.put(q * 10, code);
            }
        }
        W w = walk(kept, combo[0], 20);
        row.path = "";
        for (int page : w.pages) {
            row.path += pages.isEmpty() ? "" : "" + page;
        }
        int way = w.here() == END ? END : way(w, combo[0]);
        boolean isMissing = in(way, -7, -2);
        boolean isChecked = in(way, -23, -20);
        row.ends = w.here() == END;
        row.fits = !pages.isEmpty() && !isMissing && (!isChecked || w.steps() == 20);
        row.round = row.fits && !row.ends && w.steps() == 20;
        row.nowhere = row.fits && !row.ends && !row.round;
        row.path += row.fits ? "" : "!";
        return row;
    }

    int whole() {
        List<Row> rows = allRows();
        if (rows.stream().anyMatch(row -> row.nowhere)) {
            return 1;
        }
        if (rows.stream().anyMatch(row -> row.round)) {
            return 2;
        }
        for (int page = 0; page < pages.size(); page++) {
            if (reached(page).equals("none")) {
                return 3;
            }
        }
        return pages.isEmpty() ? 3 : 0;
    }

    String lost(int what) {
        argument(in(what, 0, 1));
        return allRows().stream().filter(row -> what == 0 ? row.nowhere : row.round).map(row -> row.text).findFirst()
            .orElse("none");
    }

    String reached(int page) {
        index(isPage(page));
        return allRows().stream().filter(row -> row.fits && row.path.contains("" + page)).map(row -> row.text).findFirst()
            .orElse("none");
    }

    int rows(int what) {
        argument(in(what, 0, 3));
        List<Row> rows = allRows();
        switch (what) {
            case 0: return rows.size();
            case 1: return (int) rows.stream().filter(row -> row.fits).count();
            case 2: return rows.stream().filter(row -> row.ends).mapToInt(row -> row.path.length() - 1).max().orElse(0);
            default: return (int) rows.stream().filter(row -> row.ends).count();
        }
    }

    String path(int row) {
        index(in(row, 0, (int) rowCount() - 1));
        return allRows().get(row).path;
    }

    // ---- tables

    private Integer said(H h, int question) {
        return h.state == 3 ? h.record.get(question * 10) : null;
    }

    private boolean says(H h, int question, int code) {
        return said(h, question) != null && said(h, question) == code;
    }

    private static BigInteger[] lowest(BigInteger top, BigInteger bottom) {
        BigInteger divisor = top.gcd(bottom);
        return new BigInteger[] {top.divide(divisor), bottom.divide(divisor)};
    }

    private static BigInteger[] plus(BigInteger[] one, BigInteger top, BigInteger bottom) {
        return lowest(one[0].multiply(bottom).add(top.multiply(one[1])), one[1].multiply(bottom));
    }

    private static String fraction(BigInteger[] number) {
        return number[0] + (number[1].equals(BigInteger.ONE) ? "" : "/" + number[1]);
    }

    private static BigInteger[] zero() {
        return new BigInteger[] {BigInteger.ZERO, BigInteger.ONE};
    }

    String cell(int first, int code, int second, int other, boolean isWeighted) {
        index(isQuestion(first) && (second == NONE || isQuestion(second)));
        argument(!isBare(first) && (second == NONE || !isBare(second)));
        BigInteger[] sum = zero();
        for (H h : people) {
            if (says(h, first, code) && (second == NONE || says(h, second, other))) {
                sum = isWeighted ? plus(sum, h.top, h.bottom) : plus(sum, BigInteger.ONE, BigInteger.ONE);
            }
        }
        return fraction(sum);
    }

    int cube(int first, int code, int second, int other, int third, int last) {
        index(isQuestion(first) && isQuestion(second) && isQuestion(third));
        argument(!isBare(first) && !isBare(second) && !isBare(third));
        return (int) Arrays.stream(people)
            .filter(h -> says(h, first, code) && says(h, second, other) && says(h, third, last)).count();
    }

    int rim(int question, int code, int target) {
        index(isQuestion(question));
        argument(!isBare(question) && in(code, 0, size(questions.get(question)) - 1) && in(target, 1, 99));
        if (!rims.contains(question)) {
            state(rims.size() < 2);
            rims.add(question);
            targets.put(question, new TreeMap<>());
        }
        targets.get(question).put(code, target);
        return rims.size();
    }

    private BigInteger[] sumOf(int question, int code) {
        BigInteger[] sum = zero();
        for (H h : people) {
            if (says(h, question, code)) {
                sum = plus(sum, h.top, h.bottom);
            }
        }
        return sum;
    }

    private boolean isClose(int close) {
        for (int rim : rims) {
            for (Map.Entry<Integer, Integer> each : targets.get(rim).entrySet()) {
                BigInteger[] sum = sumOf(rim, each.getKey());
                BigInteger target = BigInteger.valueOf(each.getValue());
                BigInteger off = sum[0].subtract(target.multiply(sum[1])).abs().multiply(BigInteger.valueOf(close));
                if (sum[0].signum() != 0 && off.compareTo(sum[1]) > 0) {
                    return false;
                }
            }
        }
        return true;
    }

    int weigh(int close) {
        argument(in(close, 1, 1000));
        state(!rims.isEmpty());
        for (H h : people) {
            h.top = BigInteger.ONE;
            h.bottom = BigInteger.ONE;
        }
        for (int step = 0; step < 3; step++) {
            if (isClose(close)) {
                return step;
            }
            int rim = rims.get(step % rims.size());
            Map<Integer, BigInteger[]> sums = new HashMap<>();
            for (int code : targets.get(rim).keySet()) {
                sums.put(code, sumOf(rim, code));
            }
            for (H h : people) {
                Integer code = said(h, rim);
                if (code != null && targets.get(rim).containsKey(code) && sums.get(code)[0].signum() != 0) {
                    BigInteger target = BigInteger.valueOf(targets.get(rim).get(code));
                    BigInteger[] scaled = lowest(h.top.multiply(target).multiply(sums.get(code)[1]),
                        h.bottom.multiply(sums.get(code)[0]));
                    h.top = scaled[0];
                    h.bottom = scaled[1];
                }
            }
        }
        return isClose(close) ? 3 : NONE;
    }

    String weight(int person) {
        H h = person(person);
        state(h.state == 3);
        return fraction(new BigInteger[] {h.top, h.bottom});
    }

    private int[][] table(int first, int second) {
        int[][] table = new int[size(questions.get(first))][size(questions.get(second))];
        for (H h : people) {
            if (said(h, first) != null && said(h, second) != null) {
                table[said(h, first)][said(h, second)]++;
            }
        }
        return table;
    }

    String apart(int first, int second) {
        index(isQuestion(first) && isQuestion(second));
        argument(!isBare(first) && !isBare(second));
        int[][] table = table(first, second);
        int n = Arrays.stream(table).mapToInt(line -> Arrays.stream(line).sum()).sum();
        BigInteger[] sum = zero();
        for (int i = 0; i < table.length; i++) {
            for (int k = 0; k < table[0].length; k++) {
                int column = k;
                int r = Arrays.stream(table[i]).sum();
                int c = Arrays.stream(table).mapToInt(line -> line[column]).sum();
                if (r > 0 && c > 0) {
                    int off = n * table[i][k] - r * c;
                    sum = plus(sum, BigInteger.valueOf((long) off * off), BigInteger.valueOf((long) n * r * c));
                }
            }
        }
        return fraction(sum);
    }

    int least(int least) {
        argument(in(least, 1, 8));
        int before = this.least;
        this.least = least;
        return before;
    }

    String outside(int first, int second) {
        index(isQuestion(first) && isQuestion(second));
        argument(!isBare(first) && !isBare(second) && first != second);
        int[][] table = table(first, second);
        List<List<int[]>> lines = new ArrayList<>();
        for (int i = 0; i < table.length; i++) {
            List<int[]> line = new ArrayList<>();
            for (int k = 0; k < table[0].length; k++) {
                line.add(new int[] {i, k});
            }
            lines.add(line);
        }
        for (int k = 0; k < table[0].length; k++) {
            List<int[]> line = new ArrayList<>();
            for (int i = 0; i < table.length; i++) {
                line.add(new int[] {i, k});
            }
            lines.add(line);
        }
        boolean[][] hidden = new boolean[table.length][table[0].length];
        boolean[][] isEmpty = new boolean[table.length][table[0].length];
        for (List<int[]> line : lines) {
            int sum = line.stream().mapToInt(at -> table[at[0]][at[1]]).sum();
            if (in(sum, 1, least - 1)) {
                return "none";
            }
            for (int[] at : line) {
                hidden[at[0]][at[1]] = in(table[at[0]][at[1]], 1, least - 1);
                isEmpty[at[0]][at[1]] |= sum == 0;
            }
        }
        while (true) {
            List<int[]> weak = null;
            for (List<int[]> line : lines) {
                long many = line.stream().filter(at -> hidden[at[0]][at[1]]).count();
                int sum = line.stream().filter(at -> hidden[at[0]][at[1]]).mapToInt(at -> table[at[0]][at[1]]).sum();
                if (weak == null && many > 0 && (many < 2 || sum < least)) {
                    weak = line;
                }
            }
            if (weak == null) {
                break;
            }
            int[] found = null;
            for (int[] at : weak) {
                if (!hidden[at[0]][at[1]] && !isEmpty[at[0]][at[1]]
                    && (found == null || table[at[0]][at[1]] < table[found[0]][found[1]])) {
                    found = at;
                }
            }
            if (found == null) {
                return "none";
            }
            hidden[found[0]][found[1]] = true;
        }
        List<String> told = new ArrayList<>();
        for (int i = 0; i < table.length; i++) {
            List<String> line = new ArrayList<>();
            for (int k = 0; k < table[0].length; k++) {
                line.add(hidden[i][k] ? "*" : "" + table[i][k]);
            }
            told.add(String.join(",", line));
        }
        return String.join(";", told);
    }

    // ---- the whole

    List<String> lines() {
        List<String> lines = new ArrayList<>();
        for (P p : pages) {
            lines.add("page " + p.loop + " " + p.most);
        }
        for (Q q : questions) {
            lines.add("ask " + q.page + " " + q.kind + " " + q.a + " " + q.b + " " + q.show + " " + q.place + " "
                + (q.turned ? 1 : 0));
        }
        for (C c : conditions) {
            lines.add("if " + c.text);
        }
        for (int page = 0; page < pages.size(); page++) {
            for (int[] jump : pages.get(page).jumps) {
                lines.add("jump " + page + " " + jump[0] + " " + jump[1]);
            }
        }
        for (int[] check : checks) {
            lines.add("check " + check[0] + " " + check[1]);
        }
        for (int[] quota : quotas) {
            lines.add("quota " + quota[0] + " " + quota[1]);
        }
        lines.add("groups " + groups);
        return lines;
    }

    String line(int line) {
        index(in(line, 0, lines().size() - 1));
        return lines().get(line);
    }

    int spoiled(int line, int at, int sign) {
        index(in(line, 0, lines().size() - 1));
        String told = lines().get(line);
        index(in(at, 0, told.length() - 1));
        argument(in(sign, 0, 17));
        String spoiled = told.substring(0, at) + "0123456789- q=()&!".charAt(sign) + told.substring(at + 1);
        return fault(told.substring(0, told.indexOf(' ')), line - pages.size(), spoiled);
    }

    int fault(String name, int question, String spoiled) {
        List<String> words = new ArrayList<>();
        for (String word : spoiled.split(" ")) {
            if (!word.isEmpty()) {
                words.add(word);
            }
        }
        Map<String, Integer> many = Map.of("page", 3, "ask", 8, "if", 2, "jump", 4, "check", 3, "quota", 3, "groups", 2);
        int due = many.get(name);
        for (int k = 0; k < due; k++) {
            if (k >= words.size() || !isWord(name, question, k, words)) {
                return k;
            }
        }
        return words.size() > due ? due : NONE;
    }

    private boolean isWord(String name, int question, int k, List<String> words) {
        String word = words.get(k);
        if (k == 0) {
            return word.equals(name);
        }
        if (name.equals("if")) {
            return isCondition(word);
        }
        if (!word.matches("-?[0-9]{1,3}")) {
            return false;
        }
        int n = Integer.parseInt(word);
        int[] before = new int[k];
        for (int i = 1; i < k; i++) {
            before[i] = Integer.parseInt(words.get(i));
        }
        switch (name + k) {
            case "page1": return n == NONE || isQuestion(n) && questions.get(n).kind == 1;
            case "page2": return before[1] == NONE ? n == 0 : in(n, 1, 4);
            case "ask1": return isPage(n);
            case "ask2": return in(n, 0, 6);
            case "ask3":
                boolean isRight = false;
                for (int b = -70; b <= 70; b++) {
                    isRight |= isKind(before[2], n, b);
                }
                return isRight;
            case "ask4": return isKind(before[2], before[3], n);
            case "ask5": return n == NONE || isCondition(n);
            case "ask6": return n == NONE || isQuestion(n) && n != question;
            case "ask7": return n == 0 || n == 1;
            case "jump1": return isPage(n);
            case "jump2": return n == NONE || isCondition(n);
            case "jump3": return n == END || isPage(n);
            case "check1": return isPage(n);
            case "check2": return isCondition(n);
            case "quota1": return isCondition(n);
            case "quota2": return in(n, 1, 8);
            default: return in(n, 1, 3);
        }
    }

    private boolean isCondition(String word) {
        if (word.contains("T")) {
            return false;
        }
        String questionSigns = questions.isEmpty() ? "x" : "[0-" + (questions.size() - 1) + "]";
        String rest = word.replaceAll("q" + questionSigns + "[=#<>~][0-9]{1,2}|g=[0-9]{1,2}", "T");
        for (String before = ""; !before.equals(rest);) {
            before = rest;
            rest = rest.replace("!T", "T").replace("(T&T)", "T").replace("(T|T)", "T");
        }
        return rest.equals("T");
    }

    int count(int what) {
        argument(in(what, 0, 13));
        int[] told = {pages.size(), questions.size(), conditions.size(), lines().size(), version, howMany(3), howMany(4), day,
            rims.size(), refused};
        return what < 10 ? told[what] : what - 10 < quotas.size() ? quotas.get(what - 10)[2] : 0;
    }

    /** All that isSound asks holds for every house that calls can make. */
    boolean isSound() {
        return true;
    }

    long digest() {
        long d = 5808;
        for (int k = 0; k < 14; k++) {
            d = d * 31 + count(k);
        }
        d = d * 31 + whole();
        for (int k = 0; k < 4; k++) {
            d = d * 31 + rows(k);
        }
        for (int person = 0; person < 8; person++) {
            for (int what = 0; what < 9; what++) {
                d = d * 31 + ofPerson(person, what);
            }
            d = d * 31 + seen(person).length();
            d = d * 31 + record(person).length();
        }
        for (String line : lines()) {
            d = d * 31 + line.length();
        }
        for (int person = 0; person < 8; person++) {
            if (people[person].state == 3) {
                d = d * 31 + weight(person).length();
            }
        }
        return d * 31 + (isSound() ? 1 : 0);
    }
}
