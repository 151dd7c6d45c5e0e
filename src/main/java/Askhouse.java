import java.util.Arrays;

/** A house that asks by forms: the form, the people who fill it in, and the tables over what they sent. */
public final class Askhouse {
    private static final int NONE = -1;
    private static final int END = 9;
    private static final int PAGES = 6;
    private static final int QUESTIONS = 6;
    private static final int CONDITIONS = 16;
    private static final int LEAVES = 8;
    private static final int JUMPS = 3;
    private static final int CHECKS = 4;
    private static final int QUOTAS = 4;
    private static final int GROUPS = 3;
    private static final int LIMIT = 8;
    private static final int MOST = 4;
    private static final int ROWS = 600;
    private static final int STEPS = 20;
    private static final int PEOPLE = 8;
    private static final int RIMS = 2;
    private static final int SIZES = 16;
    private static final int TARGET = 99;
    private static final int REMINDERS = 2;
    private static final int LAST_DAY = 1000;
    private static final int PERSON_ASPECTS = 9;
    private static final int COUNTS = 14;

    /** The answers to one question: that with the option NONE, then those with the options 0 to 3. */
    private static final int SLOTS_EACH = 5;
    private static final int SLOTS = 30;

    private static final int NEW = 0;
    private static final int INVITED = 1;
    private static final int BEGUN = 2;
    private static final int SENT = 3;
    private static final int AWAY = 4;

    private static final int UNFIT_CODE = -9;
    private static final int FIRST_MISSING = -2;
    private static final int FIRST_CHECK = -20;
    private static final int NO_JUMP = -40;

    private final Form form = new Form();
    private final Walk walk = new Walk(form);
    private final Survey survey = new Survey(form, walk);
    private final Person[] people = new Person[PEOPLE];
    private final Tables tables = new Tables(form, people);
    private final Lines lines = new Lines(form);
    private final int[] quotaCounts = new int[QUOTAS];
    private final StringBuilder text = new StringBuilder();
    private int day;
    private int refused;

    public Askhouse() {
        for (int k = 0; k < PEOPLE; k++) {
            people[k] = new Person(tables.spares);
        }
    }

    // ---- the form

    public int page() throws IllegalStateException {
        if (form.pageCount >= PAGES) {
            throw new IllegalStateException("there are six pages");
        }
        form.version++;
        return form.pageCount++;
    }

    public int question(int page, int kind, int a, int b)
            throws IndexOutOfBoundsException, IllegalArgumentException, IllegalStateException {
        needPage(page);
        if (!Question.isKind(kind) || !Question.isA(kind, a) || !Question.isB(kind, a, b)) {
            throw new IllegalArgumentException("no such kind, a or b");
        }
        int number = form.questionCount;
        if (number < 0 || number >= QUESTIONS) {
            throw new IllegalStateException("there are six questions");
        }
        boolean isBare = Question.isFree(kind) || form.pageAt(page).hasLoop();
        int times = isBare ? 1 : Question.sizeOf(kind, a, b);
        if (form.rowCount() * times > ROWS) {
            throw new IllegalStateException("too many rows");
        }
        form.questions[number].make(page, kind, a, b);
        form.questionCount++;
        form.version++;
        return number;
    }

    public int is(int question, int how, int value)
            throws IndexOutOfBoundsException, IllegalArgumentException, IllegalStateException {
        needQuestion(question);
        if (how < 0 || how > Condition.HOLDS || value < 0 || value > 99) {
            throw new IllegalArgumentException("no such how or value");
        }
        if (how == Condition.HOLDS && form.questionAt(question).kind != Question.SEVERAL) {
            throw new IllegalArgumentException("not a question with several choices");
        }
        if (form.isBare(question)) {
            throw new IllegalStateException("the question is bare");
        }
        needRoomForCondition();
        return form.addCondition(Condition.IS, question, how, value, 1);
    }

    public int inGroup(int value) throws IllegalArgumentException, IllegalStateException {
        if (value < 0 || value >= GROUPS) {
            throw new IllegalArgumentException("no such group");
        }
        needRoomForCondition();
        return form.addCondition(Condition.GROUP, 0, 0, value, 1);
    }

    public int join(int a, int b, boolean isBoth) throws IndexOutOfBoundsException, IllegalStateException {
        needCondition(a);
        needCondition(b);
        int leaves = form.conditionAt(a).leaves + form.conditionAt(b).leaves;
        needRoomForCondition();
        if (leaves > LEAVES) {
            throw new IllegalStateException("more than eight questions and groups");
        }
        return form.addCondition(isBoth ? Condition.BOTH : Condition.EITHER, a, b, 0, leaves);
    }

    public int not(int a) throws IndexOutOfBoundsException, IllegalStateException {
        needCondition(a);
        needRoomForCondition();
        return form.addCondition(Condition.NOT, a, 0, 0, form.conditionAt(a).leaves);
    }

    public int show(int question, int condition) throws IndexOutOfBoundsException {
        needQuestion(question);
        needConditionOrNone(condition);
        form.questionAt(question).show = condition;
        form.version++;
        return form.version;
    }

    public int jump(int page, int condition, int target) throws IndexOutOfBoundsException, IllegalStateException {
        needPage(page);
        if (target != END) {
            needPage(target);
        }
        needConditionOrNone(condition);
        Page from = form.pageAt(page);
        if (from.jumpCount >= JUMPS) {
            throw new IllegalStateException("the page has three jumps");
        }
        from.addJump(condition, target);
        form.version++;
        return from.jumpCount;
    }

    public int dropJump(int page, int k) throws IndexOutOfBoundsException {
        needPage(page);
        Page from = form.pageAt(page);
        if (k < 0 || k >= from.jumpCount) {
            throw new IndexOutOfBoundsException("no such jump");
        }
        from.removeJump(k);
        form.version++;
        return from.jumpCount;
    }

    public int check(int page, int condition) throws IndexOutOfBoundsException, IllegalStateException {
        needPage(page);
        needCondition(condition);
        int number = form.checkCount;
        if (number < 0 || number >= CHECKS) {
            throw new IllegalStateException("there are four checks");
        }
        form.checkPages[number] = page;
        form.checkConditions[number] = condition;
        form.checkCount++;
        form.version++;
        return number;
    }

    public int quota(int condition, int limit)
            throws IndexOutOfBoundsException, IllegalArgumentException, IllegalStateException {
        needCondition(condition);
        if (limit < 1 || limit > LIMIT) {
            throw new IllegalArgumentException("no such limit");
        }
        int number = form.quotaCount;
        if (number < 0 || number >= QUOTAS) {
            throw new IllegalStateException("there are four quotas");
        }
        form.quotaConditions[number] = condition;
        form.quotaLimits[number] = limit;
        form.quotaCount++;
        form.version++;
        return number;
    }

    public int place(int question, int other) throws IndexOutOfBoundsException, IllegalArgumentException {
        needQuestion(question);
        needQuestionOrNone(other);
        if (question == other) {
            throw new IllegalArgumentException("a question is not placed into itself");
        }
        form.questionAt(question).place = other;
        form.version++;
        return form.version;
    }

    public boolean turn(int question, boolean isTurned) throws IndexOutOfBoundsException {
        needQuestion(question);
        Question turned = form.questionAt(question);
        boolean wasTurned = turned.isTurned;
        turned.isTurned = isTurned;
        form.version++;
        return wasTurned;
    }

    public int loop(int page, int question, int most)
            throws IndexOutOfBoundsException, IllegalArgumentException, IllegalStateException {
        needPage(page);
        needQuestionOrNone(question);
        boolean isLooped = question != NONE;
        if (isLooped && (form.questionAt(question).kind != Question.SEVERAL
                || form.questionAt(question).page == page)) {
            throw new IllegalArgumentException("no question to loop over");
        }
        if (most < (isLooped ? 1 : 0) || most > (isLooped ? MOST : 0)) {
            throw new IllegalArgumentException("no such most");
        }
        if (isLooped && (form.isLookedAt(page) || tables.hasRimOn(page))) {
            throw new IllegalStateException("a condition or a rim is about a question on the page");
        }
        int rows = form.rowsWith(form.groups, page, isLooped);
        if (rows > ROWS) {
            throw new IllegalStateException("too many rows");
        }
        form.pageAt(page).loop = question;
        form.pageAt(page).most = most;
        form.version++;
        return rows;
    }

    public int groups(int many) throws IllegalArgumentException, IllegalStateException {
        if (many < 1 || many > GROUPS) {
            throw new IllegalArgumentException("no such number of groups");
        }
        int rows = form.rowsWith(many, NONE, false);
        if (rows > ROWS) {
            throw new IllegalStateException("too many rows");
        }
        form.groups = many;
        form.version++;
        return rows;
    }

    // ---- people

    public int invite(int person, int rank, int seed)
            throws IndexOutOfBoundsException, IllegalArgumentException, IllegalStateException {
        Person guest = somebody(person);
        if (rank < 0 || rank > 9 || seed < 0 || seed > 99) {
            throw new IllegalArgumentException("no such rank or seed");
        }
        if (guest.state != NEW) {
            throw new IllegalStateException("not new");
        }
        guest.state = INVITED;
        guest.rank = rank;
        guest.seed = seed;
        return howMany(INVITED);
    }

    public int call() {
        int next = NONE;
        int greatest = NONE;
        for (int k = 0; k < PEOPLE; k++) {
            if (people[k].state == INVITED && people[k].rank > greatest) {
                next = k;
                greatest = people[k].rank;
            }
        }
        if (next >= 0 && next < PEOPLE) {
            people[next].group = drawnGroup(people[next].seed);
            people[next].state = BEGUN;
            people[next].lastDay = day;
        }
        return next;
    }

    public int answer(int person, int question, int option, int code)
            throws IndexOutOfBoundsException, IllegalStateException {
        Person who = somebody(person);
        needQuestion(question);
        needBegun(who);
        int slot = needAsked(who, question, option);
        return accept(who, question, slot, code);
    }

    public int type(int person, int question, int value, int form)
            throws IndexOutOfBoundsException, IllegalArgumentException, IllegalStateException {
        Person who = somebody(person);
        needQuestion(question);
        if (value < -999 || value > 999 || form < 0 || form > 5) {
            throw new IllegalArgumentException("no such value or form");
        }
        Question asked = this.form.questionAt(question);
        if (asked.kind != Question.NUMBER) {
            throw new IllegalArgumentException("not a question for a number");
        }
        needBegun(who);
        int slot = needAsked(who, question, NONE);
        // A sign or a nought ahead of "-" makes no number of it.
        boolean isNumber = form == 0 || form <= 2 && value >= 0;
        return accept(who, question, slot, isNumber ? value - asked.a : NONE);
    }

    public int wipe(int person, int question, int option) throws IndexOutOfBoundsException, IllegalStateException {
        Person who = somebody(person);
        needQuestion(question);
        needBegun(who);
        int slot = slotOf(question, option);
        if (slot < 0 || slot >= SLOTS || who.kept[slot] < 0) {
            throw new IllegalStateException("no such answer is kept");
        }
        who.kept[slot] = NONE;
        who.lastDay = day;
        follow(who);
        return answersIn(walk.standing);
    }

    public int go(int person) throws IndexOutOfBoundsException, IllegalStateException {
        Person who = somebody(person);
        needBegun(who);
        follow(who);
        if (walk.here == END || walk.steps >= STEPS) {
            throw new IllegalStateException("no step further");
        }
        int way = walk.way();
        if (way >= 0) {
            who.cursor = walk.steps + 1;
            who.lastDay = day;
        }
        return way;
    }

    public int back(int person) throws IndexOutOfBoundsException, IllegalStateException {
        Person who = somebody(person);
        needBegun(who);
        follow(who);
        int before = walk.steps - 1;
        if (before < 0 || before >= STEPS) {
            throw new IllegalStateException("no step back");
        }
        who.cursor = before;
        who.lastDay = day;
        return walk.trail[before];
    }

    public int send(int person) throws IndexOutOfBoundsException, IllegalStateException {
        Person who = somebody(person);
        needBegun(who);
        follow(who);
        if (walk.here != END) {
            throw new IllegalStateException("not in the end");
        }
        for (int k = 0; k < form.quotaCount && k < QUOTAS; k++) {
            if (quotaCounts[k] >= form.quotaLimits[k] && isInQuota(k, who.group)) {
                who.state = AWAY;
                return FIRST_MISSING - k;
            }
        }
        for (int k = 0; k < form.quotaCount && k < QUOTAS; k++) {
            if (isInQuota(k, who.group)) {
                quotaCounts[k]++;
            }
        }
        who.state = SENT;
        System.arraycopy(walk.standing, 0, who.record, 0, SLOTS);
        return howMany(SENT);
    }

    public int pass(int days) throws IllegalArgumentException, IllegalStateException {
        if (days < 1 || days > 30) {
            throw new IllegalArgumentException("no such number of days");
        }
        if (day + days > LAST_DAY) {
            throw new IllegalStateException("beyond the last day");
        }
        day += days;
        return day;
    }

    public int remind(int days) throws IllegalArgumentException {
        if (days < 0 || days > 30) {
            throw new IllegalArgumentException("no such number of days");
        }
        int reminded = 0;
        for (int k = 0; k < PEOPLE; k++) {
            Person who = people[k];
            if (who.state == BEGUN && day - who.lastDay >= days && who.reminders < REMINDERS) {
                who.reminders++;
                reminded |= 1 << k;
            }
        }
        return reminded;
    }

    public int knock() {
        refused++;
        return refused;
    }

    // ---- what people see

    public int ofPerson(int person, int what) throws IndexOutOfBoundsException, IllegalArgumentException {
        Person who = somebody(person);
        if (what < 0 || what >= PERSON_ASPECTS) {
            throw new IllegalArgumentException("no such what");
        }
        return told(who, what);
    }

    public int stands(int person, int question, int option) throws IndexOutOfBoundsException {
        Person who = somebody(person);
        needQuestion(question);
        int[] standing = standingOf(who);
        int slot = slotOf(question, option);
        return slot >= 0 && slot < standing.length ? standing[slot] : NONE;
    }

    public String seen(int person) throws IndexOutOfBoundsException {
        Person who = somebody(person);
        writeSeen(who);
        return text.toString();
    }

    public String choices(int person, int question)
            throws IndexOutOfBoundsException, IllegalArgumentException, IllegalStateException {
        Person who = somebody(person);
        needQuestion(question);
        Question asked = form.questionAt(question);
        if (asked.kind > Question.RANK) {
            throw new IllegalArgumentException("a question without choices or things");
        }
        if (who.state == NEW) {
            throw new IllegalStateException("not invited");
        }
        text.setLength(0);
        for (int k = 0; k < asked.a; k++) {
            int number = asked.isTurned ? Math.floorMod(k + who.seed, asked.a) : k;
            text.append((char) ('a' + number));
        }
        return text.toString();
    }

    public String record(int person) throws IndexOutOfBoundsException {
        Person who = somebody(person);
        writeRecord(who);
        return text.toString();
    }

    // ---- wholeness

    public int whole() {
        survey.refresh();
        return survey.verdict();
    }

    public String lost(int what) throws IllegalArgumentException {
        if (what < 0 || what > 1) {
            throw new IllegalArgumentException("no such what");
        }
        survey.refresh();
        return rowText(what == 0 ? survey.firstNowhere : survey.firstRound);
    }

    public String reached(int page) throws IndexOutOfBoundsException {
        needPage(page);
        survey.refresh();
        return rowText(survey.firstRowOn(page));
    }

    public int rows(int what) throws IllegalArgumentException {
        if (what < 0 || what > 3) {
            throw new IllegalArgumentException("no such what");
        }
        survey.refresh();
        return survey.told(what);
    }

    public String path(int row) throws IndexOutOfBoundsException {
        if (row < 0 || row >= form.rowCount()) {
            throw new IndexOutOfBoundsException("no such row");
        }
        text.setLength(0);
        survey.writePath(text, row);
        return text.toString();
    }

    // ---- tables

    public String cell(int first, int code, int second, int other, boolean isWeighted)
            throws IndexOutOfBoundsException, IllegalArgumentException {
        needQuestion(first);
        needQuestionOrNone(second);
        needTabled(first);
        if (second != NONE) {
            needTabled(second);
        }
        tables.startSum();
        for (int k = 0; k < PEOPLE; k++) {
            if (people[k].says(first, code) && (second == NONE || people[k].says(second, other))) {
                tables.addToSum(people[k], isWeighted);
            }
        }
        text.setLength(0);
        tables.sum.write(text);
        return text.toString();
    }

    public int cube(int first, int code, int second, int other, int third, int last)
            throws IndexOutOfBoundsException, IllegalArgumentException {
        needQuestion(first);
        needQuestion(second);
        needQuestion(third);
        needTabled(first);
        needTabled(second);
        needTabled(third);
        int many = 0;
        for (int k = 0; k < PEOPLE; k++) {
            if (people[k].says(first, code) && people[k].says(second, other) && people[k].says(third, last)) {
                many++;
            }
        }
        return many;
    }

    public int rim(int question, int code, int target)
            throws IndexOutOfBoundsException, IllegalArgumentException, IllegalStateException {
        needQuestion(question);
        needTabled(question);
        if (code < 0 || code >= form.questionAt(question).size || target < 1 || target > TARGET) {
            throw new IllegalArgumentException("no such code or target");
        }
        if (!tables.hasRoomForRim(question)) {
            throw new IllegalStateException("there are two rims");
        }
        tables.setTarget(question, code, target);
        return tables.rimCount;
    }

    public int weigh(int close) throws IllegalArgumentException, IllegalStateException {
        if (close < 1 || close > 1000) {
            throw new IllegalArgumentException("no such close");
        }
        if (tables.rimCount == 0) {
            throw new IllegalStateException("no rim");
        }
        return tables.balance(close);
    }

    public String weight(int person) throws IndexOutOfBoundsException, IllegalStateException {
        Person who = somebody(person);
        if (who.state != SENT) {
            throw new IllegalStateException("not sent");
        }
        text.setLength(0);
        who.weight.write(text);
        return text.toString();
    }

    public String apart(int first, int second) throws IndexOutOfBoundsException, IllegalArgumentException {
        needQuestion(first);
        needQuestion(second);
        needTabled(first);
        needTabled(second);
        text.setLength(0);
        tables.writeApart(text, first, second);
        return text.toString();
    }

    public int least(int least) throws IllegalArgumentException {
        if (least < 1 || least > 8) {
            throw new IllegalArgumentException("no such least");
        }
        int before = tables.least;
        tables.least = least;
        return before;
    }

    public String outside(int first, int second) throws IndexOutOfBoundsException, IllegalArgumentException {
        needQuestion(first);
        needQuestion(second);
        needTabled(first);
        needTabled(second);
        if (first == second) {
            throw new IllegalArgumentException("the same question twice");
        }
        text.setLength(0);
        tables.writeOutside(text, first, second);
        return text.toString();
    }

    // ---- the whole

    public String line(int line) throws IndexOutOfBoundsException {
        needLine(line);
        lines.write(line);
        return lines.text.toString();
    }

    public int spoiled(int line, int at, int sign) throws IndexOutOfBoundsException, IllegalArgumentException {
        needLine(line);
        lines.write(line);
        if (at < 0 || at >= lines.text.length()) {
            throw new IndexOutOfBoundsException("no such place");
        }
        if (sign < 0 || sign >= Lines.SIGNS.length()) {
            throw new IllegalArgumentException("no such sign");
        }
        lines.text.setCharAt(at, Lines.SIGNS.charAt(sign));
        return lines.fault();
    }

    public int count(int what) throws IllegalArgumentException {
        if (what < 0 || what >= COUNTS) {
            throw new IllegalArgumentException("no such what");
        }
        return counted(what);
    }

    public boolean isSound() {
        survey.refresh();
        return isAllSound();
    }

    public long digest() {
        survey.refresh();
        long d = 5808;
        for (int k = 0; k < COUNTS; k++) {
            d = d * 31 + counted(k);
        }
        d = d * 31 + survey.verdict();
        for (int k = 0; k < 4; k++) {
            d = d * 31 + survey.told(k);
        }
        for (int k = 0; k < PEOPLE; k++) {
            for (int what = 0; what < PERSON_ASPECTS; what++) {
                d = d * 31 + told(people[k], what);
            }
            writeSeen(people[k]);
            d = d * 31 + text.length();
            writeRecord(people[k]);
            d = d * 31 + text.length();
        }
        int many = lines.many();
        for (int k = 0; k < many; k++) {
            lines.write(k);
            d = d * 31 + lines.text.length();
        }
        for (int k = 0; k < PEOPLE; k++) {
            if (people[k].state == SENT) {
                text.setLength(0);
                people[k].weight.write(text);
                d = d * 31 + text.length();
            }
        }
        return d * 31 + (isAllSound() ? 1 : 0);
    }

    // ---- what calls ask for

    private void needPage(int page) {
        if (page < 0 || page >= form.pageCount) {
            throw new IndexOutOfBoundsException("no such page");
        }
    }

    private void needQuestion(int question) {
        if (question < 0 || question >= form.questionCount) {
            throw new IndexOutOfBoundsException("no such question");
        }
    }

    private void needQuestionOrNone(int question) {
        if (question < NONE || question >= form.questionCount) {
            throw new IndexOutOfBoundsException("no such question");
        }
    }

    private void needCondition(int condition) {
        if (condition < 0 || condition >= form.conditionCount) {
            throw new IndexOutOfBoundsException("no such condition");
        }
    }

    private void needConditionOrNone(int condition) {
        if (condition < NONE || condition >= form.conditionCount) {
            throw new IndexOutOfBoundsException("no such condition");
        }
    }

    private void needRoomForCondition() {
        if (form.conditionCount >= CONDITIONS) {
            throw new IllegalStateException("there are sixteen conditions");
        }
    }

    private void needTabled(int question) {
        if (form.isBare(question)) {
            throw new IllegalArgumentException("the question is bare");
        }
    }

    private void needLine(int line) {
        if (line < 0 || line >= lines.many()) {
            throw new IndexOutOfBoundsException("no such line");
        }
    }

    private Person somebody(int person) {
        if (person < 0 || person >= PEOPLE) {
            throw new IndexOutOfBoundsException("no such person");
        }
        return people[person];
    }

    private void needBegun(Person who) {
        if (who.state != BEGUN) {
            throw new IllegalStateException("not begun, or sent, or turned away");
        }
    }

    private int needAsked(Person who, int question, int option) {
        follow(who);
        int slot = slotOf(question, option);
        if (slot < 0 || slot >= SLOTS || !walk.isAsked[slot]) {
            throw new IllegalStateException("not asked");
        }
        return slot;
    }

    // ---- what calls do

    private static int slotOf(int question, int option) {
        boolean isSlot = question >= 0 && question < QUESTIONS && option >= NONE && option < SLOTS_EACH - 1;
        return isSlot ? question * SLOTS_EACH + option + 1 : NONE;
    }

    private static int answersIn(int[] codes) {
        int many = 0;
        for (int code : codes) {
            if (code >= 0) {
                many++;
            }
        }
        return many;
    }

    private static void writeNumber(StringBuilder text, int number) {
        int rest = number;
        if (rest < 0) {
            text.append('-');
            rest = -rest;
        }
        int unit = 1;
        for (int k = 0; k < 9 && rest / 10 >= unit; k++) {
            unit *= 10;
        }
        for (int k = 0; k < 10 && unit > 0; k++) {
            text.append((char) ('0' + rest / unit % 10));
            unit /= 10;
        }
    }

    private void follow(Person who) {
        walk.follow(who.kept, who.group, who.cursor);
    }

    private int accept(Person who, int question, int slot, int code) {
        if (!form.questionAt(question).fits(code)) {
            return UNFIT_CODE;
        }
        if (slot >= 0 && slot < SLOTS) {
            who.kept[slot] = code;
        }
        who.lastDay = day;
        follow(who);
        return answersIn(walk.standing);
    }

    private int howMany(int state) {
        int many = 0;
        for (int k = 0; k < PEOPLE; k++) {
            if (people[k].state == state) {
                many++;
            }
        }
        return many;
    }

    private int calledInto(int group) {
        int many = 0;
        for (int k = 0; k < PEOPLE; k++) {
            if (people[k].isCalled() && people[k].group == group) {
                many++;
            }
        }
        return many;
    }

    private int drawnGroup(int seed) {
        int fewest = PEOPLE + 1;
        int alike = 0;
        for (int group = 0; group < form.groups; group++) {
            int many = calledInto(group);
            if (many < fewest) {
                fewest = many;
                alike = 0;
            }
            if (many == fewest) {
                alike++;
            }
        }
        int place = alike > 0 ? Math.floorMod(seed, alike) : 0;
        for (int group = 0; group < form.groups; group++) {
            if (calledInto(group) == fewest) {
                if (place == 0) {
                    return group;
                }
                place--;
            }
        }
        return 0;
    }

    private boolean isInQuota(int quota, int group) {
        return quota >= 0 && quota < QUOTAS && form.isSo(form.quotaConditions[quota], walk.standing, group, 0);
    }

    /** The answers of somebody that stand: on his walk, or in his record (nobody else has one). */
    private int[] standingOf(Person who) {
        if (who.state != BEGUN) {
            return who.record;
        }
        walk.follow(who.kept, who.group, who.cursor);
        return walk.standing;
    }

    private int told(Person who, int what) {
        switch (what) {
            case 0:
                return who.state;
            case 1:
                if (who.state != BEGUN) {
                    return NONE;
                }
                follow(who);
                return walk.here;
            case 2:
                return who.group;
            case 3:
                return who.seed;
            case 4:
                return who.reminders;
            case 5:
                return who.isCalled() ? day - who.lastDay : 0;
            case 6:
                return answersIn(standingOf(who));
            case 7:
                return answersIn(who.kept);
            default:
                if (who.state != BEGUN) {
                    return 0;
                }
                follow(who);
                return walk.steps;
        }
    }

    private int counted(int what) {
        switch (what) {
            case 0:
                return form.pageCount;
            case 1:
                return form.questionCount;
            case 2:
                return form.conditionCount;
            case 3:
                return lines.many();
            case 4:
                return form.version;
            case 5:
                return howMany(SENT);
            case 6:
                return howMany(AWAY);
            case 7:
                return day;
            case 8:
                return tables.rimCount;
            case 9:
                return refused;
            default:
                int quota = what - 10;
                return quota >= 0 && quota < QUOTAS ? quotaCounts[quota] : 0;
        }
    }

    private void writeSeen(Person who) {
        text.setLength(0);
        if (who.state == BEGUN) {
            follow(who);
            walk.writeView(text);
        }
    }

    private void writeRecord(Person who) {
        text.setLength(0);
        if (who.state != SENT) {
            return;
        }
        text.append('g');
        writeNumber(text, who.group);
        for (int slot = 0; slot < SLOTS; slot++) {
            if (who.record[slot] >= 0) {
                text.append(' ');
                writeNumber(text, slot / SLOTS_EACH);
                if (slot % SLOTS_EACH > 0) {
                    text.append('.');
                    writeNumber(text, slot % SLOTS_EACH - 1);
                }
                text.append(':');
                form.questionAt(slot / SLOTS_EACH).writeAnswer(text, who.record[slot]);
            }
        }
    }

    private String rowText(int row) {
        if (row < 0) {
            return "none";
        }
        text.setLength(0);
        survey.writeRow(text, row);
        return text.toString();
    }

    /** What isSound asks, with the survey looked at before. */
    private boolean isAllSound() {
        return lines.areAllRight() && survey.isTrue() && doAnswersFit() && areQuotasKept() && tables.isSumTrue();
    }

    private boolean doAnswersFit() {
        for (int k = 0; k < PEOPLE; k++) {
            int[] standing = standingOf(people[k]);
            for (int slot = 0; slot < SLOTS && slot < standing.length; slot++) {
                if (standing[slot] >= 0 && !form.questionAt(slot / SLOTS_EACH).fits(standing[slot])) {
                    return false;
                }
            }
        }
        return true;
    }

    private boolean areQuotasKept() {
        for (int k = 0; k < form.quotaCount && k < QUOTAS; k++) {
            if (quotaCounts[k] > form.quotaLimits[k]) {
                return false;
            }
        }
        return true;
    }

    /** A question of the form: what it asks, which codes answer it, and how an answer is told. */
    private static final class Question {
        static final int ONE = 0;
        static final int SEVERAL = 1;
        static final int RANK = 2;
        static final int NUMBER = 3;
        static final int PATTERN = 4;
        static final int DATE = 5;
        static final int GRID = 6;

        private static final String PAIRS = "abba";
        private static final String TRIPLES = "abcacbbacbcacabcba";
        private static final String SIGNS = "a7-z";
        private static final int[] DAYS = {31, 29, 31, 30, 31, 30, 31, 31, 30, 31, 30, 31};

        int page;
        int kind;
        int a;
        int b;
        int size;
        int show = NONE;
        int place = NONE;
        boolean isTurned;

        static boolean isKind(int kind) {
            return kind >= ONE && kind <= GRID;
        }

        static boolean isFree(int kind) {
            return kind == PATTERN || kind == DATE;
        }

        static boolean isA(int kind, int a) {
            switch (kind) {
                case ONE:
                    return a >= 2 && a <= 5;
                case SEVERAL:
                    return a >= 2 && a <= 4;
                case RANK:
                    return a >= 2 && a <= 3;
                case NUMBER:
                    return a >= -50 && a <= 50;
                case PATTERN:
                    return a >= 0 && a <= 80;
                case GRID:
                    return a >= 1 && a <= 2;
                default:
                    return a == 0;
            }
        }

        /** Whether b is in its bounds, a being so. */
        static boolean isB(int kind, int a, int b) {
            switch (kind) {
                case SEVERAL:
                    return b >= 0 && b <= a;
                case NUMBER:
                    return b >= a + 1 && b <= a + 9;
                case GRID:
                    return b >= 2 && b <= 3;
                default:
                    return b == 0;
            }
        }

        /** How many codes there are; 0 for the free ones. */
        static int sizeOf(int kind, int a, int b) {
            switch (kind) {
                case ONE:
                    return a;
                case SEVERAL:
                    return a >= 0 && a <= MOST ? 1 << a : 0;
                case RANK:
                    return a == 2 ? 2 : 6;
                case NUMBER:
                    return b - a + 1;
                case GRID:
                    return a == 1 ? b : b * b;
                default:
                    return 0;
            }
        }

        void make(int page, int kind, int a, int b) {
            this.page = page;
            this.kind = kind;
            this.a = a;
            this.b = b;
            this.size = sizeOf(kind, a, b);
        }

        boolean fits(int code) {
            if (code < 0) {
                return false;
            }
            if (kind == PATTERN) {
                return code < 256 && fitsPattern(code);
            }
            if (kind == DATE) {
                int month = code / 100 - 1;
                int dayOfMonth = code % 100;
                return month >= 0 && month < DAYS.length && dayOfMonth >= 1 && dayOfMonth <= DAYS[month];
            }
            return code < size && (kind != SEVERAL || Integer.bitCount(code) >= b);
        }

        private boolean fitsPattern(int code) {
            int pattern = a;
            int signs = code;
            for (int k = 0; k < 4; k++) {
                int sign = signs % 4;
                // "7" is a digit, "-" itself, "a" and "z" are small letters.
                int due = sign == 1 ? 0 : sign == 2 ? 2 : 1;
                if (due != pattern % 3) {
                    return false;
                }
                pattern /= 3;
                signs /= 4;
            }
            return true;
        }

        /** A code that fits: what a bare question is answered with, where only that it is matters. */
        int fitting() {
            switch (kind) {
                case SEVERAL:
                    return b >= 0 && b <= MOST ? (1 << b) - 1 : 0;
                case PATTERN:
                    return fittingText();
                case DATE:
                    return 101;
                default:
                    return 0;
            }
        }

        private int fittingText() {
            int code = 0;
            int unit = 1;
            int pattern = a;
            for (int k = 0; k < 4; k++) {
                int sign = pattern % 3;
                code += unit * (sign == 0 ? 1 : sign == 1 ? 0 : 2);
                unit *= 4;
                pattern /= 3;
            }
            return code;
        }

        void writeAnswer(StringBuilder text, int code) {
            switch (kind) {
                case ONE:
                    text.append((char) ('a' + code));
                    break;
                case SEVERAL:
                    writeChosen(text, code);
                    break;
                case RANK:
                    writeOrder(text, code);
                    break;
                case NUMBER:
                    writeNumber(text, a + code);
                    break;
                case PATTERN:
                    for (int unit = 64; unit > 0; unit /= 4) {
                        text.append(SIGNS.charAt(Math.floorMod(code / unit, 4)));
                    }
                    break;
                case DATE:
                    writeNumber(text, code / 100);
                    text.append('/');
                    writeNumber(text, code % 100);
                    break;
                default:
                    writeColumns(text, code);
                    break;
            }
        }

        private void writeChosen(StringBuilder text, int code) {
            if (code == 0) {
                text.append('.');
            }
            for (int k = 0; k < a && k < MOST; k++) {
                if ((code >> k & 1) != 0) {
                    text.append((char) ('a' + k));
                }
            }
        }

        private void writeOrder(StringBuilder text, int code) {
            String orders = a == 2 ? PAIRS : TRIPLES;
            for (int k = code * a; k < code * a + a; k++) {
                if (k >= 0 && k < orders.length()) {
                    text.append(orders.charAt(k));
                }
            }
        }

        private void writeColumns(StringBuilder text, int code) {
            if (a == 2 && b > 0) {
                text.append((char) ('a' + code / b));
                text.append((char) ('a' + code % b));
            } else {
                text.append((char) ('a' + code));
            }
        }
    }

    /** A condition; those that it is made of have smaller numbers than it. */
    private static final class Condition {
        static final int IS = 0;
        static final int GROUP = 1;
        static final int BOTH = 2;
        static final int EITHER = 3;
        static final int NOT = 4;

        static final int SAME = 0;
        static final int UNLIKE = 1;
        static final int LESS = 2;
        static final int NO_LESS = 3;
        static final int HOLDS = 4;
        static final String HOWS = "=#<>~";

        int sort;
        /** The question, or the first condition. */
        int one;
        /** How the code is compared, or the second condition. */
        int other;
        int value;
        int leaves;

        void make(int sort, int one, int other, int value, int leaves) {
            this.sort = sort;
            this.one = one;
            this.other = other;
            this.value = value;
            this.leaves = leaves;
        }

        /** Whether a code that stands (below 0: none does) is as the condition tells. */
        boolean isOf(int code) {
            if (code < 0) {
                return false;
            }
            switch (other) {
                case SAME:
                    return code == value;
                case UNLIKE:
                    return code != value;
                case LESS:
                    return code < value;
                case NO_LESS:
                    return code >= value;
                default:
                    return value >= 0 && value < MOST && (code >> value & 1) != 0;
            }
        }
    }

    /** A page with its jumps and its loop. */
    private static final class Page {
        final int[] jumpConditions = new int[JUMPS];
        final int[] jumpTargets = new int[JUMPS];
        int jumpCount;
        int loop = NONE;
        int most;

        boolean hasLoop() {
            return loop != NONE;
        }

        void addJump(int condition, int target) {
            if (jumpCount >= 0 && jumpCount < JUMPS) {
                jumpConditions[jumpCount] = condition;
                jumpTargets[jumpCount] = target;
                jumpCount++;
            }
        }

        void removeJump(int jump) {
            for (int k = Math.max(jump, 0); k + 1 < jumpCount && k + 1 < JUMPS; k++) {
                jumpConditions[k] = jumpConditions[k + 1];
                jumpTargets[k] = jumpTargets[k + 1];
            }
            jumpCount--;
        }
    }

    /** The form; what is not there is told as a blank page, question or condition. */
    private static final class Form {
        final Page[] pages = new Page[PAGES];
        final Question[] questions = new Question[QUESTIONS];
        final Condition[] conditions = new Condition[CONDITIONS];
        final Page noPage = new Page();
        final Question noQuestion = new Question();
        final Condition noCondition = new Condition();
        final int[] checkPages = new int[CHECKS];
        final int[] checkConditions = new int[CHECKS];
        final int[] quotaConditions = new int[QUOTAS];
        final int[] quotaLimits = new int[QUOTAS];
        int pageCount;
        int questionCount;
        int conditionCount;
        int checkCount;
        int quotaCount;
        int groups = 1;
        int version;

        Form() {
            for (int k = 0; k < PAGES; k++) {
                pages[k] = new Page();
            }
            for (int k = 0; k < QUESTIONS; k++) {
                questions[k] = new Question();
            }
            for (int k = 0; k < CONDITIONS; k++) {
                conditions[k] = new Condition();
            }
        }

        Page pageAt(int page) {
            return page >= 0 && page < pageCount && page < PAGES ? pages[page] : noPage;
        }

        Question questionAt(int question) {
            boolean isThere = question >= 0 && question < questionCount && question < QUESTIONS;
            return isThere ? questions[question] : noQuestion;
        }

        Condition conditionAt(int condition) {
            boolean isThere = condition >= 0 && condition < conditionCount && condition < CONDITIONS;
            return isThere ? conditions[condition] : noCondition;
        }

        boolean isBare(int question) {
            Question asked = questionAt(question);
            return Question.isFree(asked.kind) || pageAt(asked.page).hasLoop();
        }

        /** The first question that rows, conditions and tables can be about; NONE without any. */
        int firstTabled() {
            for (int k = 0; k < questionCount; k++) {
                if (!isBare(k)) {
                    return k;
                }
            }
            return NONE;
        }

        int rowCount() {
            return rowsWith(groups, NONE, false);
        }

        /** How many rows there would be with so many groups, and a page with or without a loop. */
        int rowsWith(int many, int page, boolean isLooped) {
            int rows = many;
            for (int k = 0; k < questionCount; k++) {
                Question asked = questionAt(k);
                boolean isInLoop = asked.page == page ? isLooped : pageAt(asked.page).hasLoop();
                if (!isInLoop && !Question.isFree(asked.kind)) {
                    rows *= asked.size;
                }
            }
            return rows;
        }

        /** Whether a condition is about a question on that page. */
        boolean isLookedAt(int page) {
            for (int k = 0; k < conditionCount; k++) {
                Condition condition = conditionAt(k);
                if (condition.sort == Condition.IS && questionAt(condition.one).page == page) {
                    return true;
                }
            }
            return false;
        }

        int addCondition(int sort, int one, int other, int value, int leaves) {
            int number = conditionCount;
            if (number < 0 || number >= CONDITIONS) {
                return NONE;
            }
            conditions[number].make(sort, one, other, value, leaves);
            conditionCount++;
            version++;
            return number;
        }

        /** Whether a condition (or NONE, which always is) is so; those that it is made of have smaller numbers. */
        private boolean isSo(int condition, int[] standing, int group, int depth) {
            if (condition < 0 || condition >= CONDITIONS || depth > CONDITIONS) {
                return condition == NONE;
            }
            Condition each = conditions[condition];
            switch (each.sort) {
                case Condition.IS:
                    int slot = each.one * SLOTS_EACH;
                    return slot >= 0 && slot < standing.length && each.isOf(standing[slot]);
                case Condition.GROUP:
                    return each.value == group;
                case Condition.BOTH:
                    return isSo(each.one, standing, group, depth + 1) && isSo(each.other, standing, group, depth + 1);
                case Condition.EITHER:
                    return isSo(each.one, standing, group, depth + 1) || isSo(each.other, standing, group, depth + 1);
                default:
                    return !isSo(each.one, standing, group, depth + 1);
            }
        }
    }

    /** A walk through the form, and what is asked and stands where it ends. */
    private static final class Walk {
        final Form form;
        final boolean[] isAsked = new boolean[SLOTS];
        final int[] standing = new int[SLOTS];
        final int[] trail = new int[STEPS + 1];
        int here;
        int steps;
        private int[] kept;
        private int group;

        Walk(Form form) {
            this.form = form;
            this.kept = standing;
        }

        void follow(int[] kept, int group, int limit) {
            this.kept = kept;
            this.group = group;
            for (int k = 0; k < SLOTS; k++) {
                isAsked[k] = false;
                standing[k] = NONE;
            }
            steps = 0;
            here = 0;
            trail[0] = 0;
            ask();
            while (steps < limit && steps < STEPS && here != END) {
                int next = way();
                if (next < 0) {
                    return;
                }
                steps++;
                here = next;
                trail[steps] = next;
                ask();
            }
        }

        /** Asks what is to be asked on the page here. */
        private void ask() {
            int options = options();
            for (int question = 0; question < form.questionCount; question++) {
                Question asked = form.questionAt(question);
                if (asked.page == here) {
                    // Looked at before the answers to the question itself change.
                    boolean isShown = form.isSo(asked.show, standing, group, 0);
                    for (int k = 0; k < SLOTS_EACH; k++) {
                        int slot = question * SLOTS_EACH + k;
                        if (slot < SLOTS && slot < kept.length) {
                            isAsked[slot] = isShown && (options >> k & 1) != 0;
                            standing[slot] = isAsked[slot] && asked.fits(kept[slot]) ? kept[slot] : NONE;
                        }
                    }
                }
            }
        }

        /** The options with which the page here asks: bit 0 is NONE, bit 1 the option 0. */
        private int options() {
            Page page = form.pageAt(here);
            if (!page.hasLoop()) {
                return 1;
            }
            int slot = page.loop * SLOTS_EACH;
            int chosen = slot >= 0 && slot < SLOTS ? standing[slot] : NONE;
            int options = 0;
            int many = 0;
            for (int thing = 0; thing < MOST && chosen >= 0; thing++) {
                if ((chosen >> thing & 1) != 0 && many < page.most) {
                    options |= 2 << thing;
                    many++;
                }
            }
            return options;
        }

        /** The page where a step leads from here, or what hinders it, as go tells that. */
        int way() {
            for (int question = 0; question < form.questionCount; question++) {
                if (form.questionAt(question).page == here && isMissing(question)) {
                    return FIRST_MISSING - question;
                }
            }
            for (int k = 0; k < form.checkCount && k < CHECKS; k++) {
                if (form.checkPages[k] == here && !form.isSo(form.checkConditions[k], standing, group, 0)) {
                    return FIRST_CHECK - k;
                }
            }
            Page page = form.pageAt(here);
            for (int k = 0; k < page.jumpCount && k < JUMPS; k++) {
                if (form.isSo(page.jumpConditions[k], standing, group, 0)) {
                    return page.jumpTargets[k];
                }
            }
            return NO_JUMP;
        }

        /** Whether a question is asked without an answer that stands, with any of its options. */
        private boolean isMissing(int question) {
            for (int k = 0; k < SLOTS_EACH; k++) {
                int slot = question * SLOTS_EACH + k;
                if (slot >= 0 && slot < SLOTS && isAsked[slot] && standing[slot] < 0) {
                    return true;
                }
            }
            return false;
        }

        /** What somebody sees who is here. */
        void writeView(StringBuilder text) {
            if (here == END) {
                text.append("end");
                return;
            }
            text.append('p');
            writeNumber(text, here);
            for (int slot = 0; slot < SLOTS; slot++) {
                Question asked = form.questionAt(slot / SLOTS_EACH);
                if (isAsked[slot] && asked.page == here) {
                    text.append(" q");
                    writeNumber(text, slot / SLOTS_EACH);
                    if (slot % SLOTS_EACH > 0) {
                        text.append('.');
                        writeNumber(text, slot % SLOTS_EACH - 1);
                    }
                    if (asked.place != NONE) {
                        text.append('[');
                        writeStanding(text, asked.place * SLOTS_EACH, '-');
                        text.append(']');
                    }
                    text.append('=');
                    writeStanding(text, slot, '?');
                }
            }
        }

        private void writeStanding(StringBuilder text, int slot, char without) {
            if (slot >= 0 && slot < SLOTS && standing[slot] >= 0) {
                form.questionAt(slot / SLOTS_EACH).writeAnswer(text, standing[slot]);
            } else {
                text.append(without);
            }
        }
    }

    /** What the rows of the form come to, looked at anew whenever the form has changed. */
    private static final class Survey {
        private static final int UNFIT = 0;
        private static final int ENDED = 1;
        private static final int NOWHERE = 2;
        private static final int ROUND = 3;

        final Form form;
        final Walk walk;
        int firstNowhere = NONE;
        int firstRound = NONE;
        private final int[] kept = new int[SLOTS];
        private int group;
        private int lookedAt = NONE;
        private int rowCount;
        private int fitting;
        private int ended;
        private int mostSteps;
        private final int[] firstRows = new int[PAGES];
        private final boolean[] isEndedFrom = new boolean[PAGES];

        Survey(Form form, Walk walk) {
            this.form = form;
            this.walk = walk;
        }

        void refresh() {
            if (lookedAt == form.version) {
                return;
            }
            lookedAt = form.version;
            rowCount = form.rowCount();
            firstNowhere = NONE;
            firstRound = NONE;
            fitting = 0;
            ended = 0;
            mostSteps = 0;
            for (int k = 0; k < PAGES; k++) {
                firstRows[k] = NONE;
                isEndedFrom[k] = false;
            }
            for (int row = 0; row < rowCount && row < ROWS; row++) {
                note(row, outcomeOf(row));
            }
        }

        private int outcomeOf(int row) {
            setRow(row);
            walk.follow(kept, group, STEPS);
            if (form.pageCount == 0) {
                return UNFIT;
            }
            if (walk.here == END) {
                return ENDED;
            }
            int way = walk.way();
            if (way <= FIRST_MISSING && way > FIRST_MISSING - QUESTIONS) {
                return UNFIT;
            }
            // Where the steps are used up, checks and jumps do not matter any more.
            if (walk.steps >= STEPS) {
                return ROUND;
            }
            return way == NO_JUMP ? NOWHERE : UNFIT;
        }

        private void note(int row, int outcome) {
            if (outcome == UNFIT) {
                return;
            }
            fitting++;
            if (outcome == ENDED) {
                ended++;
                mostSteps = Math.max(mostSteps, walk.steps);
            }
            if (outcome == NOWHERE && firstNowhere == NONE) {
                firstNowhere = row;
            }
            if (outcome == ROUND && firstRound == NONE) {
                firstRound = row;
            }
            for (int k = 0; k <= walk.steps && k <= STEPS; k++) {
                int page = walk.trail[k];
                if (page >= 0 && page < PAGES) {
                    if (firstRows[page] == NONE) {
                        firstRows[page] = row;
                    }
                    if (outcome == ENDED) {
                        isEndedFrom[page] = true;
                    }
                }
            }
        }

        private void setRow(int row) {
            int rest = row;
            for (int question = QUESTIONS - 1; question >= 0; question--) {
                int slot = question * SLOTS_EACH;
                Question asked = form.questionAt(question);
                boolean isBare = form.isBare(question);
                int size = asked.size;
                int fillIn = isBare ? asked.fitting() : NONE;
                for (int k = 0; k < SLOTS_EACH && slot + k < SLOTS; k++) {
                    kept[slot + k] = fillIn;
                }
                if (!isBare && size > 0 && slot < SLOTS) {
                    kept[slot] = rest % size;
                    rest /= size;
                }
            }
            group = rest;
        }

        void writeRow(StringBuilder text, int row) {
            setRow(row);
            text.append('g');
            writeNumber(text, group);
            for (int k = 0; k < form.questionCount && k < QUESTIONS; k++) {
                text.append(' ');
                if (form.isBare(k)) {
                    text.append('-');
                } else {
                    writeNumber(text, kept[k * SLOTS_EACH]);
                }
            }
        }

        void writePath(StringBuilder text, int row) {
            int outcome = outcomeOf(row);
            for (int k = 0; k <= walk.steps && k <= STEPS && form.pageCount > 0; k++) {
                writeNumber(text, walk.trail[k]);
            }
            if (outcome == UNFIT) {
                text.append('!');
            }
        }

        int firstRowOn(int page) {
            return page >= 0 && page < PAGES ? firstRows[page] : NONE;
        }

        int verdict() {
            if (firstNowhere != NONE) {
                return 1;
            }
            if (firstRound != NONE) {
                return 2;
            }
            for (int k = 0; k < form.pageCount && k < PAGES; k++) {
                if (firstRows[k] == NONE) {
                    return 3;
                }
            }
            return form.pageCount == 0 ? 3 : 0;
        }

        int told(int what) {
            switch (what) {
                case 0:
                    return rowCount;
                case 1:
                    return fitting;
                case 2:
                    return mostSteps;
                default:
                    return ended;
            }
        }

        /** Whether the form is whole just if all that fits ends, and from each page something does. */
        boolean isTrue() {
            boolean isWhole = form.pageCount > 0 && ended == fitting;
            for (int k = 0; k < form.pageCount && k < PAGES; k++) {
                isWhole = isWhole && isEndedFrom[k];
            }
            return isWhole == (verdict() == 0);
        }
    }

    /** Somebody: what was said and, when sent, what stood of it. */
    private static final class Person {
        final int[] kept = new int[SLOTS];
        final int[] record = new int[SLOTS];
        final Fraction weight;
        int state = NEW;
        int rank;
        int seed = NONE;
        int group = NONE;
        int cursor;
        int reminders;
        int lastDay;

        Person(Natural[] spares) {
            weight = new Fraction(spares);
            weight.put(1);
            Arrays.fill(kept, NONE);
            Arrays.fill(record, NONE);
        }

        boolean isCalled() {
            return state == BEGUN || state == SENT || state == AWAY;
        }

        /** The code of the answer with the option NONE in the record; NONE without one. */
        int coded(int question) {
            int slot = question >= 0 && question < QUESTIONS ? question * SLOTS_EACH : NONE;
            return state == SENT && slot >= 0 && slot < SLOTS ? record[slot] : NONE;
        }

        boolean says(int question, int code) {
            return code >= 0 && coded(question) == code;
        }
    }

    /** A whole number from 0 on, of as many digits as weights may need: nine of them a limb. */
    private static final class Natural {
        private static final int BASE = 1000000000;
        private static final int LIMBS = 48;
        private static final int BITS = 1500;

        private final int[] limbs = new int[LIMBS];
        private int size;

        /** Takes a number of at most nine digits. */
        void put(int number) {
            limbs[0] = number;
            size = number == 0 ? 0 : 1;
        }

        void copy(Natural other) {
            size = other.size;
            System.arraycopy(other.limbs, 0, limbs, 0, LIMBS);
        }

        boolean isZero() {
            return size == 0;
        }

        boolean isOne() {
            return size == 1 && limbs[0] == 1;
        }

        boolean isEven() {
            return size == 0 || limbs[0] % 2 == 0;
        }

        /** Below 0, 0, or above 0, as this is less than the other one, the same, or more. */
        int against(Natural other) {
            if (size != other.size) {
                return size - other.size;
            }
            for (int k = size - 1; k >= 0 && k < LIMBS; k--) {
                if (limbs[k] != other.limbs[k]) {
                    return limbs[k] - other.limbs[k];
                }
            }
            return 0;
        }

        void add(Natural other) {
            int carry = 0;
            int most = Math.max(size, other.size);
            for (int k = 0; k < LIMBS && (k < most || carry > 0); k++) {
                int sum = (k < size ? limbs[k] : 0) + (k < other.size ? other.limbs[k] : 0) + carry;
                carry = sum >= BASE ? 1 : 0;
                limbs[k] = sum - carry * BASE;
                size = Math.max(size, k + 1);
            }
        }

        /** Takes away a number that is no greater than this. */
        void subtract(Natural other) {
            int borrow = 0;
            for (int k = 0; k < size && k < LIMBS && (k < other.size || borrow > 0); k++) {
                int rest = limbs[k] - (k < other.size ? other.limbs[k] : 0) - borrow;
                borrow = rest < 0 ? 1 : 0;
                limbs[k] = rest + borrow * BASE;
            }
            while (size > 0 && size <= LIMBS && limbs[size - 1] == 0) {
                size--;
            }
        }

        /** Multiplies by a number above 0. */
        void times(int factor) {
            long carry = 0;
            for (int k = 0; k < LIMBS && (k < size || carry > 0); k++) {
                carry += (k < size ? (long) limbs[k] : 0) * factor;
                limbs[k] = (int) (carry % BASE);
                carry /= BASE;
                size = Math.max(size, k + 1);
            }
        }

        /** Becomes the product of two other ones. */
        void multiply(Natural one, Natural other) {
            Arrays.fill(limbs, 0);
            for (int i = 0; i < one.size && i < LIMBS; i++) {
                long carry = 0;
                for (int k = 0; i + k < LIMBS && (k < other.size || carry > 0); k++) {
                    long factor = k < other.size ? other.limbs[k] : 0;
                    carry += limbs[i + k] + one.limbs[i] * factor;
                    limbs[i + k] = (int) (carry % BASE);
                    carry /= BASE;
                }
            }
            size = Math.min(one.size + other.size, LIMBS);
            while (size > 0 && size <= LIMBS && limbs[size - 1] == 0) {
                size--;
            }
        }

        void halve() {
            int carry = 0;
            for (int k = size - 1; k >= 0 && k < LIMBS; k--) {
                int whole = limbs[k] + carry * BASE;
                limbs[k] = whole / 2;
                carry = whole % 2;
            }
            if (size > 0 && size <= LIMBS && limbs[size - 1] == 0) {
                size--;
            }
        }

        /** Halves what is above 0 until it is odd. */
        void makeOdd() {
            for (int k = 0; k < BITS && size > 0 && isEven(); k++) {
                halve();
            }
        }

        /** Divides by a number above 0 that goes into this without a rest, with two others to work on. */
        void divide(Natural by, Natural step, Natural rest) {
            rest.copy(this);
            step.copy(by);
            put(0);
            int doublings = 0;
            while (doublings < BITS && step.against(rest) <= 0) {
                step.times(2);
                doublings++;
            }
            for (int k = 0; k < doublings; k++) {
                step.halve();
                times(2);
                if (step.against(rest) <= 0) {
                    rest.subtract(step);
                    increase();
                }
            }
        }

        /** One more; only for an even number, so nothing is carried. */
        private void increase() {
            if (size == 0) {
                limbs[0] = 0;
                size = 1;
            }
            limbs[0]++;
        }

        void write(StringBuilder text) {
            writeNumber(text, size > 0 && size <= LIMBS ? limbs[size - 1] : 0);
            for (int k = size - 2; k >= 0 && k < LIMBS; k--) {
                for (int unit = BASE / 10; unit > 0; unit /= 10) {
                    text.append((char) ('0' + limbs[k] / unit % 10));
                }
            }
        }
    }

    /** A fraction from 0 on, kept in lowest terms; all of them work on the same four spare numbers. */
    private static final class Fraction {
        private static final int TURNS = 10000;
        private static final int SPARES = 4;

        private final Natural top = new Natural();
        private final Natural bottom = new Natural();
        private final Natural product;
        private final Natural second;
        private final Natural divisor;
        private final Natural work;

        Fraction(Natural[] spares) {
            product = spares.length > 0 ? spares[0] : new Natural();
            second = spares.length > 1 ? spares[1] : new Natural();
            divisor = spares.length > 2 ? spares[2] : new Natural();
            work = spares.length > 3 ? spares[3] : new Natural();
            bottom.put(1);
        }

        void put(int number) {
            top.put(number);
            bottom.put(1);
        }

        boolean isZero() {
            return top.isZero();
        }

        boolean isAs(Fraction other) {
            return top.against(other.top) == 0 && bottom.against(other.bottom) == 0;
        }

        void add(Fraction other) {
            product.multiply(top, other.bottom);
            second.multiply(other.top, bottom);
            product.add(second);
            second.multiply(bottom, other.bottom);
            top.copy(product);
            bottom.copy(second);
            reduce();
        }

        /** Multiplies by target / sum; the sum is not 0. */
        void scale(int target, Fraction sum) {
            product.multiply(top, sum.bottom);
            product.times(target);
            second.multiply(bottom, sum.top);
            top.copy(product);
            bottom.copy(second);
            reduce();
        }

        /** Whether this differs from the target by 1 / close or less. */
        boolean isNear(int target, int close) {
            product.copy(bottom);
            product.times(target);
            second.copy(top);
            if (product.against(second) < 0) {
                second.subtract(product);
                second.times(close);
                return second.against(bottom) <= 0;
            }
            product.subtract(second);
            product.times(close);
            return product.against(bottom) <= 0;
        }

        private void reduce() {
            if (top.isZero()) {
                bottom.put(1);
            }
            for (int k = 0; k < TURNS && !bottom.isOne() && top.isEven() && bottom.isEven(); k++) {
                top.halve();
                bottom.halve();
            }
            if (top.isZero() || top.isOne() || bottom.isOne() || bottom.isZero()) {
                return;
            }
            // What goes into both is odd by now, so twos are left out as it is sought.
            divisor.copy(top);
            work.copy(bottom);
            divisor.makeOdd();
            work.makeOdd();
            int order = divisor.against(work);
            for (int k = 0; k < TURNS && order != 0; k++) {
                Natural greater = order > 0 ? divisor : work;
                greater.subtract(order > 0 ? work : divisor);
                greater.makeOdd();
                order = divisor.against(work);
            }
            if (!divisor.isOne()) {
                top.divide(divisor, work, product);
                bottom.divide(divisor, work, product);
            }
        }

        void write(StringBuilder text) {
            top.write(text);
            if (!bottom.isOne()) {
                text.append('/');
                bottom.write(text);
            }
        }
    }

    /** The tables over those who have sent: weights by rims, and what may be told outside. */
    private static final class Tables {
        private static final int WEIGHING_STEPS = 3;
        private static final int CELLS = 256;
        /** What each number from 1 to 8 goes into. */
        private static final int COMMON = 840;

        final Natural[] spares = new Natural[Fraction.SPARES];
        final Fraction sum;
        int least = 3;
        int rimCount;
        private final Fraction part;
        private final Form form;
        private final Person[] people;
        private final int[] rimQuestions = new int[RIMS];
        private final int[] rimTargets = new int[RIMS * SIZES];
        private final int[] cells = new int[CELLS];
        private final boolean[] isHidden = new boolean[CELLS];
        /** The sums of the lines: a code of the first question each, then a code of the second one each. */
        private final int[] sums = new int[SIZES + SIZES];
        private int height;
        private int width;

        Tables(Form form, Person[] people) {
            this.form = form;
            this.people = people;
            for (int k = 0; k < Fraction.SPARES; k++) {
                spares[k] = new Natural();
            }
            sum = new Fraction(spares);
            part = new Fraction(spares);
        }

        void startSum() {
            sum.put(0);
        }

        void addToSum(Person who, boolean isWeighted) {
            if (isWeighted) {
                sum.add(who.weight);
            } else {
                part.put(1);
                sum.add(part);
            }
        }

        boolean hasRimOn(int page) {
            for (int k = 0; k < rimCount && k < RIMS; k++) {
                if (form.questionAt(rimQuestions[k]).page == page) {
                    return true;
                }
            }
            return false;
        }

        private int rimOf(int question) {
            for (int k = 0; k < rimCount && k < RIMS; k++) {
                if (rimQuestions[k] == question) {
                    return k;
                }
            }
            return rimCount;
        }

        boolean hasRoomForRim(int question) {
            return rimOf(question) < RIMS;
        }

        void setTarget(int question, int code, int target) {
            int rim = rimOf(question);
            if (rim < 0 || rim >= RIMS || code < 0 || code >= SIZES) {
                return;
            }
            if (rim == rimCount) {
                rimQuestions[rim] = question;
                rimCount++;
            }
            rimTargets[rim * SIZES + code] = target;
        }

        /** Weighs; tells how many steps it took, or NONE. */
        int balance(int close) {
            for (int k = 0; k < PEOPLE; k++) {
                people[k].weight.put(1);
            }
            for (int step = 0; step < WEIGHING_STEPS && rimCount > 0; step++) {
                if (isClose(close)) {
                    return step;
                }
                adjust(step % rimCount);
            }
            return isClose(close) ? WEIGHING_STEPS : NONE;
        }

        private boolean isClose(int close) {
            for (int k = 0; k < RIMS * SIZES; k++) {
                if (k / SIZES < rimCount && rimTargets[k] > 0) {
                    weighSaying(rimQuestions[k / SIZES], k % SIZES);
                    if (!sum.isZero() && !sum.isNear(rimTargets[k], close)) {
                        return false;
                    }
                }
            }
            return true;
        }

        private void adjust(int rim) {
            if (rim < 0 || rim >= RIMS) {
                return;
            }
            for (int code = 0; code < SIZES; code++) {
                int target = rimTargets[rim * SIZES + code];
                weighSaying(rimQuestions[rim], code);
                if (target > 0 && !sum.isZero()) {
                    for (int k = 0; k < PEOPLE; k++) {
                        if (people[k].says(rimQuestions[rim], code)) {
                            people[k].weight.scale(target, sum);
                        }
                    }
                }
            }
        }

        /** Sums the weights of those with that code. */
        private void weighSaying(int question, int code) {
            sum.put(0);
            for (int k = 0; k < PEOPLE; k++) {
                if (people[k].says(question, code)) {
                    sum.add(people[k].weight);
                }
            }
        }

        /** Whether the weights of the first question's codes sum up to those of all who answered it. */
        boolean isSumTrue() {
            int question = form.firstTabled();
            part.put(0);
            int size = question == NONE ? 0 : form.questionAt(question).size;
            for (int code = 0; code < size && code < SIZES; code++) {
                weighSaying(question, code);
                part.add(sum);
            }
            sum.put(0);
            for (int k = 0; k < PEOPLE; k++) {
                if (people[k].coded(question) >= 0) {
                    sum.add(people[k].weight);
                }
            }
            return sum.isAs(part);
        }

        /** Counts the cells of two questions; tells how many have both. */
        private int countCells(int first, int second) {
            height = Math.min(form.questionAt(first).size, SIZES);
            width = Math.min(form.questionAt(second).size, SIZES);
            Arrays.fill(cells, 0);
            Arrays.fill(sums, 0);
            int many = 0;
            for (int k = 0; k < PEOPLE; k++) {
                int code = people[k].coded(first);
                int other = people[k].coded(second);
                if (code >= 0 && code < SIZES && other >= 0 && other < SIZES) {
                    many++;
                    cells[code * SIZES + other]++;
                    sums[code]++;
                    sums[SIZES + other]++;
                }
            }
            return many;
        }

        void writeApart(StringBuilder text, int first, int second) {
            int many = countCells(first, second);
            long top = 0;
            for (int i = 0; i < height && i < SIZES; i++) {
                for (int k = 0; k < width && k < SIZES; k++) {
                    int r = sums[i];
                    int c = sums[SIZES + k];
                    if (r > 0 && c > 0) {
                        long off = many * cells[i * SIZES + k] - r * c;
                        top += off * off * (COMMON / r) * (COMMON / c);
                    }
                }
            }
            long bottom = (long) many * COMMON * COMMON;
            long one = top;
            long other = bottom;
            for (int k = 0; k < Fraction.TURNS && other > 0; k++) {
                long rest = one % other;
                one = other;
                other = rest;
            }
            if (one <= 0) {
                text.append('0');
                return;
            }
            writeNumber(text, (int) (top / one));
            if (bottom != one) {
                text.append('/');
                writeNumber(text, (int) (bottom / one));
            }
        }

        void writeOutside(StringBuilder text, int first, int second) {
            countCells(first, second);
            if (!hide()) {
                text.append("none");
                return;
            }
            for (int i = 0; i < height && i < SIZES; i++) {
                if (i > 0) {
                    text.append(';');
                }
                for (int k = 0; k < width && k < SIZES; k++) {
                    if (k > 0) {
                        text.append(',');
                    }
                    if (isHidden[i * SIZES + k]) {
                        text.append('*');
                    } else {
                        writeNumber(text, cells[i * SIZES + k]);
                    }
                }
            }
        }

        /** Hides what must be hidden; tells whether anything may be told then. */
        private boolean hide() {
            for (int k = 0; k < SIZES + SIZES; k++) {
                if (sums[k] > 0 && sums[k] < least) {
                    return false;
                }
            }
            for (int k = 0; k < CELLS; k++) {
                isHidden[k] = cells[k] > 0 && cells[k] < least;
            }
            // Each turn hides one cell more.
            for (int k = 0; k <= CELLS; k++) {
                int line = firstWeakLine();
                if (line == NONE) {
                    return true;
                }
                int cell = leastOpenCell(line);
                if (cell < 0 || cell >= CELLS) {
                    return false;
                }
                isHidden[cell] = true;
            }
            return false;
        }

        /** The cell at a place of a line; NONE behind its end. */
        private int cellOf(int line, int at) {
            if (at < 0 || line < 0 || line >= SIZES + width) {
                return NONE;
            }
            if (line < SIZES) {
                return at < width ? line * SIZES + at : NONE;
            }
            return at < height ? at * SIZES + line - SIZES : NONE;
        }

        /** The first line whose hidden cells could be found out; NONE without one. */
        private int firstWeakLine() {
            for (int line = 0; line < SIZES + SIZES; line++) {
                int many = 0;
                int hidden = 0;
                for (int at = 0; at < SIZES; at++) {
                    int cell = cellOf(line, at);
                    if (cell >= 0 && cell < CELLS && isHidden[cell]) {
                        many++;
                        hidden += cells[cell];
                    }
                }
                if (many > 0 && (many < 2 || hidden < least)) {
                    return line;
                }
            }
            return NONE;
        }

        private int leastOpenCell(int line) {
            int found = NONE;
            int fewest = PEOPLE + 1;
            for (int at = 0; at < SIZES; at++) {
                int cell = cellOf(line, at);
                if (cell >= 0 && cell < CELLS && !isHidden[cell] && cells[cell] < fewest
                        && sums[cell / SIZES] > 0 && sums[SIZES + cell % SIZES] > 0) {
                    found = cell;
                    fewest = cells[cell];
                }
            }
            return found;
        }
    }

    /** The lines that tell the form, and what is wrong with a line as it is read. */
    private static final class Lines {
        static final String SIGNS = "0123456789- q=()&!";

        private static final int PAGE_LINES = 0;
        private static final int ASK_LINES = 1;
        private static final int IF_LINES = 2;
        private static final int JUMP_LINES = 3;
        private static final int CHECK_LINES = 4;
        private static final int QUOTA_LINES = 5;
        private static final int GROUPS_LINES = 6;
        private static final int DEEPEST = 40;
        /** What no number of three digits is. */
        private static final int NO_NUMBER = 1000;

        final StringBuilder text = new StringBuilder();
        private final Form form;
        /** What was read, written anew. */
        private final StringBuilder copy = new StringBuilder();
        private final int[] read = new int[8];
        private int section;
        private int index;
        private int from;
        private int to;
        private int at;

        Lines(Form form) {
            this.form = form;
        }

        int many() {
            int many = 0;
            for (int k = 0; k <= GROUPS_LINES; k++) {
                many += linesIn(k);
            }
            return many;
        }

        private int linesIn(int section) {
            switch (section) {
                case PAGE_LINES:
                    return form.pageCount;
                case ASK_LINES:
                    return form.questionCount;
                case IF_LINES:
                    return form.conditionCount;
                case JUMP_LINES:
                    int jumps = 0;
                    for (int k = 0; k < form.pageCount; k++) {
                        jumps += form.pageAt(k).jumpCount;
                    }
                    return jumps;
                case CHECK_LINES:
                    return form.checkCount;
                case QUOTA_LINES:
                    return form.quotaCount;
                default:
                    return 1;
            }
        }

        private static String nameOf(int section) {
            switch (section) {
                case PAGE_LINES:
                    return "page";
                case ASK_LINES:
                    return "ask";
                case IF_LINES:
                    return "if";
                case JUMP_LINES:
                    return "jump";
                case CHECK_LINES:
                    return "check";
                case QUOTA_LINES:
                    return "quota";
                default:
                    return "groups";
            }
        }

        private static int wordsIn(int section) {
            switch (section) {
                case PAGE_LINES:
                    return 3;
                case ASK_LINES:
                    return 8;
                case JUMP_LINES:
                    return 4;
                case CHECK_LINES:
                case QUOTA_LINES:
                    return 3;
                default:
                    return 2;
            }
        }

        /** Writes a line of the form into the text. */
        void write(int line) {
            section = PAGE_LINES;
            index = line;
            for (int k = PAGE_LINES; k < GROUPS_LINES && index >= linesIn(k); k++) {
                index -= linesIn(k);
                section = k + 1;
            }
            text.setLength(0);
            text.append(nameOf(section));
            switch (section) {
                case PAGE_LINES:
                    writeWords(form.pageAt(index).loop, form.pageAt(index).most);
                    break;
                case ASK_LINES:
                    writeAsk(form.questionAt(index));
                    break;
                case IF_LINES:
                    text.append(' ');
                    writeCondition(index, 0);
                    break;
                case JUMP_LINES:
                    writeJump();
                    break;
                case CHECK_LINES:
                    if (index >= 0 && index < CHECKS) {
                        writeWords(form.checkPages[index], form.checkConditions[index]);
                    }
                    break;
                case QUOTA_LINES:
                    if (index >= 0 && index < QUOTAS) {
                        writeWords(form.quotaConditions[index], form.quotaLimits[index]);
                    }
                    break;
                default:
                    writeWord(form.groups);
                    break;
            }
        }

        private void writeWord(int number) {
            text.append(' ');
            writeNumber(text, number);
        }

        private void writeWords(int one, int other) {
            writeWord(one);
            writeWord(other);
        }

        private void writeAsk(Question asked) {
            writeWords(asked.page, asked.kind);
            writeWords(asked.a, asked.b);
            writeWords(asked.show, asked.place);
            writeWord(asked.isTurned ? 1 : 0);
        }

        private void writeJump() {
            int rest = index;
            for (int k = 0; k < form.pageCount; k++) {
                Page page = form.pageAt(k);
                if (rest >= 0 && rest < page.jumpCount && rest < JUMPS) {
                    writeWord(k);
                    writeWords(page.jumpConditions[rest], page.jumpTargets[rest]);
                    return;
                }
                rest -= page.jumpCount;
            }
        }

        private void writeCondition(int number, int depth) {
            Condition condition = form.conditionAt(number);
            if (depth > DEEPEST) {
                return;
            }
            switch (condition.sort) {
                case Condition.IS:
                    text.append('q');
                    writeNumber(text, condition.one);
                    if (condition.other >= 0 && condition.other < Condition.HOWS.length()) {
                        text.append(Condition.HOWS.charAt(condition.other));
                    }
                    writeNumber(text, condition.value);
                    break;
                case Condition.GROUP:
                    text.append("g=");
                    writeNumber(text, condition.value);
                    break;
                case Condition.NOT:
                    text.append('!');
                    writeCondition(condition.one, depth + 1);
                    break;
                default:
                    text.append('(');
                    writeCondition(condition.one, depth + 1);
                    text.append(condition.sort == Condition.BOTH ? '&' : '|');
                    writeCondition(condition.other, depth + 1);
                    text.append(')');
                    break;
            }
        }

        /** The first word of the text that is wrong or missing, or the number of the first one too many; or NONE. */
        int fault() {
            copy.setLength(0);
            to = 0;
            int words = wordsIn(section);
            for (int word = 0; word < words; word++) {
                findWord();
                if (from == to || !isRight(word)) {
                    return word;
                }
            }
            findWord();
            return from == to ? NONE : words;
        }

        /** Finds the next word behind the last one; an empty one, if there is none. */
        private void findWord() {
            from = to;
            while (from < text.length() && text.charAt(from) == ' ') {
                from++;
            }
            to = from;
            while (to < text.length() && text.charAt(to) != ' ') {
                to++;
            }
        }

        private boolean isRight(int word) {
            if (word == 0) {
                return isName(nameOf(section));
            }
            copy.append(' ');
            if (section == IF_LINES) {
                at = from;
                return readCondition(0) && at == to;
            }
            int number = readNumber();
            if (number >= NO_NUMBER || !isInBounds(word, number)) {
                return false;
            }
            if (word < read.length) {
                read[word] = number;
            }
            writeNumber(copy, number);
            return true;
        }

        private boolean isName(String name) {
            if (to - from != name.length()) {
                return false;
            }
            for (int k = 0; k < name.length(); k++) {
                if (signAt(from + k) != name.charAt(k)) {
                    return false;
                }
            }
            copy.append(name);
            return true;
        }

        /** The sign at a place of the word; a blank outside of it. */
        private char signAt(int place) {
            return place >= from && place < to && place < text.length() ? text.charAt(place) : ' ';
        }

        /** The word as a number of one to three digits, with "-" or not; NO_NUMBER, if it is none. */
        private int readNumber() {
            boolean isBelow = signAt(from) == '-';
            int first = isBelow ? from + 1 : from;
            if (first == to || to - first > 3) {
                return NO_NUMBER;
            }
            int number = 0;
            for (int k = first; k < to; k++) {
                char sign = signAt(k);
                if (sign < '0' || sign > '9') {
                    return NO_NUMBER;
                }
                number = number * 10 + sign - '0';
            }
            return isBelow ? -number : number;
        }

        private boolean isInBounds(int word, int number) {
            switch (section) {
                case PAGE_LINES:
                    return word == 1 ? isLoopWord(number) : isMostWord(number);
                case ASK_LINES:
                    return isAskWord(word, number);
                case JUMP_LINES:
                    if (word == 2) {
                        return isConditionOrNone(number);
                    }
                    return isPage(number) || word == 3 && number == END;
                case CHECK_LINES:
                    return word == 1 ? isPage(number) : isConditionOrNone(number) && number != NONE;
                case QUOTA_LINES:
                    return word == 1 ? isConditionOrNone(number) && number != NONE : number >= 1 && number <= LIMIT;
                default:
                    return number >= 1 && number <= GROUPS;
            }
        }

        private boolean isLoopWord(int number) {
            return number == NONE || number >= 0 && number < form.questionCount
                    && form.questionAt(number).kind == Question.SEVERAL;
        }

        private boolean isMostWord(int number) {
            return read[1] == NONE ? number == 0 : number >= 1 && number <= MOST;
        }

        private boolean isAskWord(int word, int number) {
            switch (word) {
                case 1:
                    return isPage(number);
                case 2:
                    return Question.isKind(number);
                case 3:
                    return Question.isA(read[2], number);
                case 4:
                    return Question.isB(read[2], read[3], number);
                case 5:
                    return isConditionOrNone(number);
                case 6:
                    return number >= NONE && number < form.questionCount && number != index;
                default:
                    return number == 0 || number == 1;
            }
        }

        private boolean isPage(int number) {
            return number >= 0 && number < form.pageCount;
        }

        private boolean isConditionOrNone(int number) {
            return number >= NONE && number < form.conditionCount;
        }

        /** Reads the text of a condition from the place where reading is; tells whether there is one. */
        private boolean readCondition(int depth) {
            if (depth > DEEPEST) {
                return false;
            }
            char sign = takeSign();
            if (sign == 'q') {
                int question = takeSign() - '0';
                boolean isThere = question >= 0 && question < form.questionCount;
                return isThere && Condition.HOWS.indexOf(takeSign()) >= 0 && readValue();
            }
            if (sign == 'g') {
                return takeSign() == '=' && readValue();
            }
            if (sign == '!') {
                return readCondition(depth + 1);
            }
            if (sign != '(' || !readCondition(depth + 1)) {
                return false;
            }
            char joint = takeSign();
            return (joint == '&' || joint == '|') && readCondition(depth + 1) && takeSign() == ')';
        }

        private char takeSign() {
            char sign = signAt(at);
            at++;
            copy.append(sign);
            return sign;
        }

        private boolean readValue() {
            int value = 0;
            int digits = 0;
            while (digits < 2 && signAt(at) >= '0' && signAt(at) <= '9') {
                value = value * 10 + signAt(at) - '0';
                at++;
                digits++;
            }
            writeNumber(copy, value);
            return digits > 0;
        }

        /** Whether each line is right, and a form read from all would be told by the same lines. */
        boolean areAllRight() {
            int lines = many();
            for (int k = 0; k < lines; k++) {
                write(k);
                if (fault() != NONE || !isCopyAsText()) {
                    return false;
                }
            }
            return true;
        }

        private boolean isCopyAsText() {
            if (copy.length() != text.length()) {
                return false;
            }
            for (int k = 0; k < text.length(); k++) {
                if (copy.charAt(k) != text.charAt(k)) {
                    return false;
                }
            }
            return true;
        }
    }
}
