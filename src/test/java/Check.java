import java.util.function.Supplier;

/** What the tests are written with: due answers, due exceptions, and all that a house tells. */
final class Check {
    static final Class<? extends RuntimeException> INDEX = IndexOutOfBoundsException.class;
    static final Class<? extends RuntimeException> ARGUMENT = IllegalArgumentException.class;
    static final Class<? extends RuntimeException> STATE = IllegalStateException.class;

    private static int checks;
    private static int wrong;

    private Check() {
    }

    static void same(String what, Object got, Object due) {
        checks++;
        if (!due.equals(got)) {
            wrong++;
            System.out.println(what + ": answered " + got + ", due is " + due);
        }
    }

    /** The call throws just that, and nothing that the house tells is changed by it. */
    static void refused(String what, Class<? extends RuntimeException> due, Askhouse house, Supplier<Object> call) {
        String before = all(house);
        Object got;
        try {
            got = call.get();
        } catch (RuntimeException e) {
            got = e.getClass();
        }
        same(what, got, due);
        same(what + ", nothing changed", all(house), before);
    }

    /** All that isSound asks holds, and the digest is that of what the house tells, which asking does not change. */
    static void sound(String what, Askhouse house) {
        same(what + ", isSound", house.isSound(), true);
        same(what + ", digest", house.digest(), digest(house));
    }

    /** The digest, of what the house tells. */
    private static long digest(Askhouse house) {
        long d = 5808;
        for (int k = 0; k < 14; k++) {
            d = d * 31 + house.count(k);
        }
        d = d * 31 + house.whole();
        for (int k = 0; k < 4; k++) {
            d = d * 31 + house.rows(k);
        }
        for (int person = 0; person < 8; person++) {
            for (int what = 0; what < 9; what++) {
                d = d * 31 + house.ofPerson(person, what);
            }
            d = d * 31 + house.seen(person).length();
            d = d * 31 + house.record(person).length();
        }
        for (int line = 0; line < house.count(3); line++) {
            d = d * 31 + house.line(line).length();
        }
        for (int person = 0; person < 8; person++) {
            if (house.ofPerson(person, 0) == 3) {
                d = d * 31 + house.weight(person).length();
            }
        }
        return d * 31 + (house.isSound() ? 1 : 0);
    }

    static void end(String name) {
        System.out.println(name + ": " + checks + " checks, " + wrong + " wrong");
        if (wrong != 0 || checks == 0) {
            System.exit(1);
        }
    }

    /**
     * All that a house tells. To ask it takes some 300 calls, so what is refused after that is beyond the 512 calls that
     * the document promises of an object; the class counts no calls, and answers all of them alike.
     */
    static String all(Askhouse house) {
        StringBuilder told = new StringBuilder();
        for (int k = 0; k < 14; k++) {
            told.append(house.count(k)).append(' ');
        }
        for (int k = 0; k < house.count(3); k++) {
            told.append(house.line(k)).append('\n');
        }
        told.append(house.whole()).append(house.lost(0)).append(house.lost(1));
        for (int k = 0; k < house.count(0); k++) {
            told.append(house.reached(k)).append(' ');
        }
        for (int k = 0; k < 4; k++) {
            told.append(house.rows(k)).append(' ');
        }
        for (int person = 0; person < 8; person++) {
            for (int what = 0; what < 9; what++) {
                told.append(house.ofPerson(person, what)).append(' ');
            }
            told.append(house.seen(person)).append(house.record(person));
            if (house.ofPerson(person, 0) == 3) {
                told.append(house.weight(person));
            }
            for (int question = 0; question < house.count(1); question++) {
                for (int option = -1; option < 4; option++) {
                    told.append(house.stands(person, question, option)).append(' ');
                }
            }
            told.append('\n');
        }
        int least = house.least(1);
        house.least(least);
        return told.append(least).append(house.isSound()).append(house.digest()).toString();
    }

    /** A house with so many pages, each with a jump on, the last one to the end. */
    static Askhouse pages(int many) {
        Askhouse house = new Askhouse();
        for (int k = 0; k < many; k++) {
            house.page();
        }
        for (int k = 0; k < many; k++) {
            house.jump(k, -1, k + 1 < many ? k + 1 : 9);
        }
        return house;
    }

    /** Invites and calls so many, from person 0 on. */
    static void begin(Askhouse house, int many) {
        for (int k = 0; k < many; k++) {
            house.invite(k, 5, 0);
            house.call();
        }
    }

    /** Somebody answers question after question with the codes (below 0: not at all), goes on to the end, and sends. */
    static int sendWith(Askhouse house, int person, int... codes) {
        house.invite(person, 5, 0);
        house.call();
        for (int turn = 0; turn < 21 && house.ofPerson(person, 1) != 9; turn++) {
            for (int question = 0; question < codes.length; question++) {
                boolean isAsked = house.seen(person).contains(" q" + question + "=?");
                if (isAsked && codes[question] >= 0) {
                    house.answer(person, question, -1, codes[question]);
                }
            }
            house.go(person);
        }
        return house.send(person);
    }
}
