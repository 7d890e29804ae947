import java.nio.charset.StandardCharsets;
import java.util.NoSuchElementException;
import java.util.Random;

/** Runs of calls by seeds, each answered by the class and by the Model: every answer has to be the same. */
public final class ModelTest {
    private static final int RUNS = 600;
    private static final int CALLS = 512;
    private static final int SHOWN = 20;

    private final Random random;
    private final DunningHouse house = new DunningHouse();
    private final Model model = new Model();
    private final int run;
    private int calls = 0;

    private ModelTest(int run) {
        this.run = run;
        random = new Random(run);
    }

    public static void main(String[] args) {
        for (int run = 0; run < RUNS && Check.wrongAnswers() < SHOWN; run++) {
            new ModelTest(run).go();
        }
        Check.finish("ModelTest");
    }

    private void go() {
        if (run % 3 == 2) {
            while (calls < CALLS - 40) {
                tell(text(random.nextInt(4) != 0));
                checkAll();
            }
            return;
        }
        tell(text(run % 50 == 0));
        boolean busy = run % 4 == 0;
        boolean hoards = run % 4 == 1;
        while (calls < CALLS) {
            if (hoards && random.nextInt(3) == 0) {
                hoard();
            } else {
                act(busy);
            }
            if (random.nextInt(8) == 0) {
                look();
            }
            if (calls % 64 == 0) {
                checkAll();
            }
        }
        checkAll();
    }

    private void due(String call, int got, int want) {
        calls++;
        Check.same("run " + run + ", call " + calls + ": " + call, got, want);
    }

    private int up(int most) {
        return random.nextInt(most + 1);
    }

    private int pick(int... of) {
        return of[random.nextInt(of.length)];
    }

    /** Mostly a number that is there, now and then one beside it. */
    private int id(int count) {
        return random.nextInt(12) == 0 ? pick(-1, count, -2, Integer.MIN_VALUE, Integer.MAX_VALUE)
            : count == 0 ? 0 : random.nextInt(count);
    }

    /** Mostly not refused, so that INVOICES and ORDERS grow to as many as there can be. */
    private void hoard() {
        int d = random.nextInt(Math.max(1, model.now(2)));
        int sum = 1 + up(20);
        if (random.nextInt(3) == 0) {
            due("asks(" + d + ", " + sum + ")", house.asks(d, sum), model.asks(d, sum));
        } else {
            int days = up(20);
            due("bill(" + d + ", " + sum + ", " + days + ")", house.bill(d, sum, days), model.bill(d, sum, days));
        }
    }

    private void act(boolean busy) {
        int d = id(model.now(2));
        int i = id(model.now(3));
        int o = id(model.now(4));
        switch (up(busy ? 15 : 19)) {
            case 0: case 1: {
                int sum = pick(1 + up(200), 1 + up(200), 9999, 10000, 0);
                int days = pick(up(20), up(20), 99, 100, 0, -1);
                due("bill(" + d + ", " + sum + ", " + days + ")", house.bill(d, sum, days), model.bill(d, sum, days));
                break;
            }
            case 2: case 3: case 4: {
                int sum = pick(1 + up(300), 1 + up(60), 1 + up(60), random.nextInt(40) == 0 ? 99999 : 5, 0, 100000);
                due("pay(" + d + ", " + sum + ")", house.pay(d, sum), model.pay(d, sum));
                break;
            }
            case 5:
                due("dispute(" + i + ")", house.dispute(i) ? 1 : 0, model.dispute(i) ? 1 : 0);
                break;
            case 6: case 7: {
                int off = pick(up(50), 0, model.invoice(i, 2), model.invoice(i, 2) + 1, -1);
                due("settle(" + i + ", " + off + ")", house.settle(i, off), model.settle(i, off));
                break;
            }
            case 8: {
                int debt = d >= 0 && d < model.now(2) ? model.debtor(d, 3) : 0;
                int sum = pick(1 + up(50), debt, debt + 1, 0, 1);
                int day = model.now(0) + pick(up(8), up(8), 0, 30, 31, -1);
                due("promise(" + d + ", " + sum + ", " + day + ")", house.promise(d, sum, day),
                    model.promise(d, sum, day));
                break;
            }
            case 9: {
                int n = pick(2, 3, 4, 12, 13, 1, 2 + up(10));
                int days = pick(1, 2, 3, 30, 31, 0, 1 + up(9));
                due("plan(" + d + ", " + n + ", " + days + ")", house.plan(d, n, days), model.plan(d, n, days));
                break;
            }
            case 10: case 11: {
                int sum = pick(1 + up(150), 1 + up(150), 9999, 10000, 0);
                due("asks(" + d + ", " + sum + ")", house.asks(d, sum), model.asks(d, sum));
                break;
            }
            case 12: case 13:
                due("ships(" + o + ")", house.ships(o), model.ships(o));
                break;
            case 14:
                due("cancel(" + o + ")", house.cancel(o) ? 1 : 0, model.cancel(o) ? 1 : 0);
                break;
            case 15:
                if (random.nextInt(busy ? 6 : 2) == 0) {
                    due("undo()", house.undo(), model.undo());
                }
                break;
            default: {
                int days = pick(1, 1, 2, 3, 1 + up(8), random.nextInt(20) == 0 ? 99 : 4, random.nextInt(9) - 4, 100);
                due("pass(" + days + ")", house.pass(days), model.pass(days));
            }
        }
    }

    private void look() {
        int d = id(model.now(2));
        switch (up(8)) {
            case 0:
                due("next(" + d + ")", house.next(d), model.next(d));
                break;
            case 1: {
                int sum = pick(1 + up(300), 99999, 100000, 0, 1);
                due("would(" + d + ", " + sum + ")", house.would(d, sum), model.would(d, sum));
                break;
            }
            case 2: {
                int what = up(6) - 1;
                due("aged(" + d + ", " + what + ")", house.aged(d, what), model.aged(d, what));
                break;
            }
            case 3: {
                int what = up(45) - 1;
                due("planned(" + d + ", " + what + ")", house.planned(d, what), model.planned(d, what));
                break;
            }
            case 4: {
                int what = up(5) - 1;
                due("promised(" + d + ", " + what + ")", house.promised(d, what), model.promised(d, what));
                break;
            }
            case 5: {
                int what = up(13) - 1;
                due("debtor(" + d + ", " + what + ")", debtor(d, what), modelDebtor(d, what));
                break;
            }
            case 6: {
                int i = id(model.now(3));
                int what = up(9) - 1;
                due("invoice(" + i + ", " + what + ")", house.invoice(i, what), model.invoice(i, what));
                break;
            }
            case 7: {
                int o = id(model.now(4));
                int what = up(6) - 1;
                due("order(" + o + ", " + what + ")", house.order(o, what), model.order(o, what));
                break;
            }
            default: {
                int s = id(model.now(1));
                int what = up(4) - 1;
                due("step(" + s + ", " + what + ")", house.step(s, what), model.step(s, what));
            }
        }
    }

    private int debtor(int d, int what) {
        try {
            return house.debtor(d, what);
        } catch (NoSuchElementException e) {
            return Integer.MIN_VALUE;
        }
    }

    private int modelDebtor(int d, int what) {
        try {
            return model.debtor(d, what);
        } catch (NoSuchElementException e) {
            return Integer.MIN_VALUE;
        }
    }

    /** Not counted as calls: they change nothing. */
    private void checkAll() {
        int before = calls;
        for (int what = -1; what <= 11; what++) {
            due("now(" + what + ")", house.now(what), model.now(what));
        }
        for (int s = 0; s < model.now(1); s++) {
            for (int what = 0; what < 3; what++) {
                due("step(" + s + ", " + what + ")", house.step(s, what), model.step(s, what));
            }
        }
        for (int d = 0; d < model.now(2); d++) {
            for (int what = 0; what <= 10; what++) {
                due("debtor(" + d + ", " + what + ")", debtor(d, what), modelDebtor(d, what));
            }
            for (int what = 0; what <= 42; what++) {
                due("planned(" + d + ", " + what + ")", house.planned(d, what), model.planned(d, what));
                due("promised(" + d + ", " + what + ")", house.promised(d, what), model.promised(d, what));
            }
            due("next(" + d + ")", house.next(d), model.next(d));
        }
        for (int d = -1; d <= model.now(2); d++) {
            for (int what = 0; what <= 4; what++) {
                due("aged(" + d + ", " + what + ")", house.aged(d, what), model.aged(d, what));
            }
        }
        for (int i = 0; i < model.now(3); i++) {
            for (int what = 0; what <= 6; what++) {
                due("invoice(" + i + ", " + what + ")", house.invoice(i, what), model.invoice(i, what));
            }
        }
        for (int o = 0; o < model.now(4); o++) {
            for (int what = 0; what <= 3; what++) {
                due("order(" + o + ", " + what + ")", house.order(o, what), model.order(o, what));
            }
        }
        calls = before;
    }

    private void tell(String text) {
        byte[] bytes = text.getBytes(StandardCharsets.ISO_8859_1);
        int length = Math.min(bytes.length, 640);
        for (int i = 0; i < length; i += 20) {
            int[] n = new int[5];
            for (int k = 0; k < 20; k++) {
                n[k / 4] = n[k / 4] << 8 | (i + k < length ? bytes[i + k] & 255 : 0);
            }
            due("feed", house.feed(n[0], n[1], n[2], n[3], n[4]), model.feed(n));
        }
        due("end(" + length + ")", house.end(length) ? 1 : 0, model.end(length) ? 1 : 0);
        due("text() of " + text, house.text(), model.text());
        due("fault() of " + text, house.fault(), model.fault());
    }

    private String text(boolean spoilt) {
        StringBuilder text = new StringBuilder();
        int extra = spoilt && random.nextInt(4) == 0 ? 1 : 0;
        int steps = up(3) == 0 ? 6 + extra : up(4);
        int debtors = up(3) == 0 ? 6 + extra : 1 + up(3);
        int invoices = up(3) == 0 ? 12 + extra : up(9);
        for (int i = 0; i < steps; i++) {
            line(text, "step", 1 + up(12), up(6), pick(0, up(40), up(40), 999));
        }
        line(text, "hold", 1 + up(4));
        for (int i = 0; i < debtors; i++) {
            line(text, "debtor", pick(up(600), up(600), 9999, 0), pick(up(20), 99, 0));
        }
        for (int i = 0; i < invoices; i++) {
            line(text, "invoice", random.nextInt(Math.min(6, debtors)), 1 + up(300), up(15));
        }
        if (spoilt) {
            spoil(text);
        }
        return text.toString();
    }

    private void line(StringBuilder text, String word, int... numbers) {
        text.append(word);
        for (int n : numbers) {
            text.append(pick(0, 0, 0, 1) == 0 ? " " : "\n ").append(n);
        }
        text.append(pick(0, 1) == 0 ? ";" : " ;").append(pick(0, 0, 1) == 0 ? "" : "\n");
    }

    private void spoil(StringBuilder text) {
        for (int times = 1 + up(2); times > 0; times--) {
            int at = random.nextInt(text.length());
            switch (up(7)) {
                case 0:
                    text.setCharAt(at, (char) up(255));
                    break;
                case 1:
                    text.deleteCharAt(at);
                    break;
                case 2:
                    text.insert(at, (char) ('0' + up(9)));
                    break;
                case 3:
                    text.setLength(at + 1);
                    break;
                case 4:
                    text.insert(at, ";");
                    break;
                case 5:
                    text.insert(at, new String[] {" step ", " hold ", " debtor ", " invoice ", " 0 ", " x "}[up(5)]);
                    break;
                default:
                    int blanks = Math.max(0, pick(590, 600, 610) - text.length());
                    text.insert(pick(0, at, text.length()), " ".repeat(blanks));
            }
            if (text.length() == 0) {
                text.append(' ');
            }
        }
    }
}
