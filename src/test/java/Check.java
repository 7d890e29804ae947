import java.nio.charset.StandardCharsets;
import java.util.NoSuchElementException;

/** What the tests share: counting wrong answers, telling a text, and reading all that an object shows. */
final class Check {
    private static int wrong = 0;

    private Check() {
    }

    static void same(String what, long got, long due) {
        if (got != due) {
            wrong++;
            System.out.println(what + " answered " + got + ", due is " + due);
        }
    }

    static void same(String what, boolean got, boolean due) {
        same(what, got ? 1 : 0, due ? 1 : 0);
    }

    static void same(String what, String got, String due) {
        if (!got.equals(due)) {
            wrong++;
            System.out.println(what + " was\n  " + got + "\ndue is\n  " + due);
        }
    }

    /** debtor() has to throw NoSuchElementException and nothing else. */
    static void noSuchDebtor(DunningHouse house, int debtor, int what) {
        boolean thrown = false;
        try {
            house.debtor(debtor, what);
        } catch (NoSuchElementException e) {
            thrown = true;
        }
        same("debtor(" + debtor + ", " + what + ") throws", thrown, true);
    }

    static int wrongAnswers() {
        return wrong;
    }

    static void finish(String name) {
        System.out.println(name + ": " + (wrong == 0 ? "all answers are as due" : wrong + " answers are not as due"));
        if (wrong != 0) {
            System.exit(1);
        }
    }

    /** Puts a text of at most 640 bytes on an empty tape. */
    static void put(DunningHouse house, byte[] text) {
        for (int i = 0; i < text.length; i += 20) {
            house.feed(four(text, i), four(text, i + 4), four(text, i + 8), four(text, i + 12), four(text, i + 16));
        }
        house.end(text.length);
    }

    static int tell(DunningHouse house, String text) {
        put(house, text.getBytes(StandardCharsets.ISO_8859_1));
        return house.text();
    }

    static DunningHouse told(String text) {
        DunningHouse house = new DunningHouse();
        if (tell(house, text) < 0) {
            same("the text " + text, house.fault(), 0);
        }
        return house;
    }

    private static int four(byte[] text, int from) {
        int number = 0;
        for (int i = from; i < from + 4; i++) {
            number = number << 8 | (i < text.length ? text[i] & 255 : 0);
        }
        return number;
    }

    /** All that the calls which change nothing tell of an object. */
    static String seen(DunningHouse house) {
        StringBuilder all = new StringBuilder();
        for (int what = 0; what <= 10; what++) {
            all.append(house.now(what)).append(' ');
        }
        for (int i = 0; i < house.now(1); i++) {
            all.append("| step ");
            for (int what = 0; what <= 2; what++) {
                all.append(house.step(i, what)).append(' ');
            }
        }
        for (int i = 0; i < house.now(2); i++) {
            all.append("| debtor ");
            appendDebtor(all, house, i);
        }
        for (int i = 0; i < house.now(3); i++) {
            all.append("| invoice ");
            for (int what = 0; what <= 6; what++) {
                all.append(house.invoice(i, what)).append(' ');
            }
        }
        for (int i = 0; i < house.now(4); i++) {
            all.append("| order ");
            for (int what = 0; what <= 3; what++) {
                all.append(house.order(i, what)).append(' ');
            }
        }
        return all.append("| fault ").append(house.fault()).toString();
    }

    private static void appendDebtor(StringBuilder all, DunningHouse house, int debtor) {
        for (int what = 0; what <= 10; what++) {
            all.append(house.debtor(debtor, what)).append(' ');
        }
        for (int what = 0; what <= 2; what++) {
            all.append(house.promised(debtor, what)).append(' ');
        }
        for (int what = 0; what <= 42; what++) {
            all.append(house.planned(debtor, what)).append(' ');
        }
        for (int what = 0; what <= 4; what++) {
            all.append(house.aged(debtor, what)).append(' ');
        }
        all.append(house.next(debtor)).append(' ').append(house.would(debtor, 50)).append(' ');
    }
}
