import java.util.ArrayDeque;
import java.util.ArrayList;
import java.util.Comparator;
import java.util.Deque;
import java.util.List;
import java.util.NoSuchElementException;
import java.util.regex.Matcher;
import java.util.regex.Pattern;

/**
 * The document once more, told with objects, lists and streams and nothing shared with the class: ModelTest
 * holds both against each other.
 */
final class Model {
    static final class Step {
        final int from;
        final int gap;
        final int fee;

        Step(int from, int gap, int fee) {
            this.from = from;
            this.gap = gap;
            this.fee = fee;
        }
    }

    static final class Invoice {
        int debtor;
        int sum;
        int open;
        int due;
        int age;
        boolean disputed;
        boolean fee;

        boolean live() {
            return open > 0 && !disputed;
        }

        Invoice copy() {
            Invoice c = new Invoice();
            c.debtor = debtor;
            c.sum = sum;
            c.open = open;
            c.due = due;
            c.age = age;
            c.disputed = disputed;
            c.fee = fee;
            return c;
        }
    }

    static final class Order {
        int debtor;
        int sum;
        int state;
        int invoice = -1;

        Order copy() {
            Order c = new Order();
            c.debtor = debtor;
            c.sum = sum;
            c.state = state;
            c.invoice = invoice;
            return c;
        }
    }

    static final class Promise {
        int sum;
        int day;
        int paid;
    }

    static final class Plan {
        int paid;
        int[] sums;
        int[] days;
    }

    static final class Debtor {
        int limit;
        int terms;
        int cash;
        int stage;
        int stageDay;
        int broken;
        Promise promise;
        Plan plan;

        Debtor copy() {
            Debtor c = new Debtor();
            c.limit = limit;
            c.terms = terms;
            c.cash = cash;
            c.stage = stage;
            c.stageDay = stageDay;
            c.broken = broken;
            if (promise != null) {
                c.promise = new Promise();
                c.promise.sum = promise.sum;
                c.promise.day = promise.day;
                c.promise.paid = promise.paid;
            }
            if (plan != null) {
                c.plan = new Plan();
                c.plan.paid = plan.paid;
                c.plan.sums = plan.sums.clone();
                c.plan.days = plan.days.clone();
            }
            return c;
        }
    }

    static final class World {
        int today;
        int paid;
        int hold = 1;
        List<Step> steps = new ArrayList<>();
        List<Debtor> debtors = new ArrayList<>();
        List<Invoice> invoices = new ArrayList<>();
        List<Order> orders = new ArrayList<>();

        World copy() {
            World c = new World();
            c.today = today;
            c.paid = paid;
            c.hold = hold;
            c.steps.addAll(steps);
            debtors.forEach(d -> c.debtors.add(d.copy()));
            invoices.forEach(i -> c.invoices.add(i.copy()));
            orders.forEach(o -> c.orders.add(o.copy()));
            return c;
        }

        boolean court(int d) {
            return !steps.isEmpty() && debtors.get(d).stage == steps.size();
        }

        int owes(int d) {
            return invoices.stream().filter(i -> i.debtor == d).mapToInt(i -> i.open).sum();
        }

        int debt(int d) {
            return invoices.stream().filter(i -> i.debtor == d && i.live()).mapToInt(i -> i.open).sum();
        }

        int oldest(int d) {
            return invoices.stream().filter(i -> i.debtor == d && i.live()).mapToInt(i -> i.age).max().orElse(0);
        }

        int risk(int d) {
            int released = orders.stream().filter(o -> o.debtor == d && o.state == 1).mapToInt(o -> o.sum).sum();
            return owes(d) - debtors.get(d).cash + released;
        }

        void place(int d) {
            List<Invoice> live = new ArrayList<>();
            invoices.stream().filter(i -> i.debtor == d && i.live()).forEach(live::add);
            live.sort(Comparator.comparingInt(i -> i.due));
            for (Invoice i : live) {
                int part = Math.min(i.open, debtors.get(d).cash);
                i.open -= part;
                debtors.get(d).cash -= part;
            }
        }

        int release(int d) {
            int count = 0;
            for (Order o : orders) {
                if (o.debtor != d || o.state != 0) {
                    continue;
                }
                boolean free = debtors.get(d).stage < hold && risk(d) + o.sum <= debtors.get(d).limit;
                if (!free) {
                    break;
                }
                o.state = 1;
                count++;
            }
            return count;
        }

        int invoice(int d, int sum, int due, boolean fee) {
            Invoice i = new Invoice();
            i.debtor = d;
            i.sum = sum;
            i.open = sum;
            i.due = due;
            i.fee = fee;
            invoices.add(i);
            return invoices.size() - 1;
        }

        int pay(int d, int sum) {
            Debtor debtor = debtors.get(d);
            debtor.cash += sum;
            paid += sum;
            if (debtor.promise != null) {
                debtor.promise.paid += sum;
            }
            if (debtor.plan != null) {
                debtor.plan.paid += sum;
            }
            place(d);
            return release(d);
        }

        void endPlan(int d) {
            Plan plan = debtors.get(d).plan;
            int sum = 0;
            for (int k = 0; k < plan.sums.length; k++) {
                sum += plan.sums[k];
                if (plan.days[k] == today && plan.paid < sum) {
                    debtors.get(d).plan = null;
                    return;
                }
            }
            if (debt(d) == 0 || plan.days[plan.days.length - 1] == today) {
                debtors.get(d).plan = null;
            }
        }

        /** The debtors whose step was done. */
        List<Integer> endDay() {
            for (Invoice i : invoices) {
                Debtor d = debtors.get(i.debtor);
                if (i.live() && today >= i.due && d.promise == null && d.plan == null) {
                    i.age++;
                }
            }
            for (int d = 0; d < debtors.size(); d++) {
                Debtor debtor = debtors.get(d);
                if (debtor.promise != null && debtor.promise.day == today) {
                    if (debtor.promise.paid < debtor.promise.sum) {
                        debtor.broken++;
                    }
                    debtor.promise = null;
                }
                if (debtor.plan != null) {
                    endPlan(d);
                }
            }
            today++;
            List<Integer> done = new ArrayList<>();
            for (int d = 0; d < debtors.size(); d++) {
                Debtor debtor = debtors.get(d);
                if (oldest(d) == 0) {
                    debtor.stage = court(d) ? debtor.stage : 0;
                } else if (debtor.promise == null && debtor.plan == null && debtor.stage < steps.size()) {
                    Step step = steps.get(debtor.stage);
                    boolean gone = debtor.stage == 0 || today - debtor.stageDay >= step.gap;
                    if (oldest(d) >= step.from && gone) {
                        debtor.stage++;
                        debtor.stageDay = today;
                        if (step.fee > 0 && invoices.size() < 60) {
                            invoice(d, step.fee, today, true);
                        }
                        place(d);
                        done.add(d);
                    }
                }
            }
            for (int d = 0; d < debtors.size(); d++) {
                release(d);
            }
            return done;
        }
    }

    static final class Fault extends Exception {
        private static final long serialVersionUID = 1L;
        final int kind;
        final int place;

        Fault(int kind, int place) {
            this.kind = kind;
            this.place = place;
        }
    }

    /** The grammar as a plain descent over tokens that a pattern found. */
    static final class Parser {
        private static final Pattern TOKEN = Pattern.compile("[a-z0-9]+|[^ \n]");
        final String text;
        final List<String> tokens = new ArrayList<>();
        final List<Integer> places = new ArrayList<>();
        final World world = new World();
        int at;
        int lines;

        Parser(String text) {
            this.text = text;
            Matcher m = TOKEN.matcher(text);
            while (m.find() && m.start() < 600) {
                tokens.add(m.group());
                places.add(m.start());
            }
        }

        int place() {
            return at < tokens.size() ? places.get(at) : Math.min(600, text.length());
        }

        boolean is(String token) {
            return at < tokens.size() && tokens.get(at).equals(token);
        }

        void fail(int kind) throws Fault {
            throw new Fault(kind, place());
        }

        int number(int least, int most) throws Fault {
            if (at >= tokens.size() || !tokens.get(at).matches("[0-9]{1,4}")) {
                fail(1);
            }
            int n = Integer.parseInt(tokens.get(at));
            if (n < least || n > most) {
                fail(2);
            }
            at++;
            return n;
        }

        void semicolon() throws Fault {
            if (!is(";")) {
                fail(1);
            }
            at++;
            lines++;
        }

        boolean word(String word, int have, int most) throws Fault {
            if (!is(word)) {
                return false;
            }
            if (have >= most) {
                fail(3);
            }
            at++;
            return true;
        }

        World parse() throws Fault {
            while (word("step", world.steps.size(), 6)) {
                world.steps.add(new Step(number(1, 99), number(0, 99), number(0, 999)));
                semicolon();
            }
            if (!word("hold", 0, 1)) {
                fail(1);
            }
            world.hold = number(1, 9);
            semicolon();
            while (word("debtor", world.debtors.size(), 6)) {
                Debtor d = new Debtor();
                d.limit = number(0, 9999);
                d.terms = number(0, 99);
                world.debtors.add(d);
                semicolon();
            }
            while (word("invoice", world.invoices.size(), 12)) {
                int d = number(0, world.debtors.size() - 1);
                int sum = number(1, 9999);
                world.invoice(d, sum, number(0, 99), false);
                semicolon();
            }
            if (at < tokens.size() || text.length() > 600) {
                fail(1);
            }
            return world;
        }
    }

    private World world = new World();
    private final Deque<World> kept = new ArrayDeque<>();
    private final StringBuilder tape = new StringBuilder();
    private int fault;

    private void keep() {
        kept.addLast(world.copy());
        if (kept.size() > 10) {
            kept.removeFirst();
        }
    }

    private boolean isDebtor(int d) {
        return d >= 0 && d < world.debtors.size();
    }

    private static boolean in(int n, int least, int most) {
        return n >= least && n <= most;
    }

    int feed(int... numbers) {
        if (tape.length() + 20 > 640) {
            return -1;
        }
        for (int n : numbers) {
            for (int k = 3; k >= 0; k--) {
                tape.append((char) (n >>> 8 * k & 255));
            }
        }
        return tape.length();
    }

    boolean end(int n) {
        if (n < 0 || n > tape.length()) {
            return false;
        }
        tape.setLength(n);
        return true;
    }

    int text() {
        Parser parser = new Parser(tape.toString());
        tape.setLength(0);
        try {
            world = parser.parse();
            kept.clear();
            fault = 0;
            return parser.lines;
        } catch (Fault f) {
            fault = f.kind;
            return -1 - f.place;
        }
    }

    int fault() {
        return fault;
    }

    int now(int what) {
        switch (what) {
            case 0: return world.today;
            case 1: return world.steps.size();
            case 2: return world.debtors.size();
            case 3: return world.invoices.size();
            case 4: return world.orders.size();
            case 5: return (int) world.orders.stream().filter(o -> o.state == 0).count();
            case 6: return world.invoices.stream().mapToInt(i -> i.open).sum();
            case 7: return world.debtors.stream().mapToInt(d -> d.cash).sum();
            case 8: return world.paid;
            case 9: return kept.size();
            case 10: return tape.length();
            default: return -1;
        }
    }

    int step(int s, int what) {
        if (!in(s, 0, world.steps.size() - 1) || !in(what, 0, 2)) {
            return -1;
        }
        Step step = world.steps.get(s);
        return new int[] {step.from, step.gap, step.fee}[what];
    }

    int debtor(int d, int what) {
        if (!isDebtor(d) || !in(what, 0, 10)) {
            throw new NoSuchElementException();
        }
        Debtor x = world.debtors.get(d);
        return new int[] {x.limit, x.terms, world.owes(d), world.debt(d), x.cash, x.stage, x.stageDay,
            world.oldest(d), x.broken, world.court(d) ? 1 : 0, world.risk(d)}[what];
    }

    int invoice(int i, int what) {
        if (!in(i, 0, world.invoices.size() - 1) || !in(what, 0, 6)) {
            return -1;
        }
        Invoice x = world.invoices.get(i);
        return new int[] {x.debtor, x.sum, x.open, x.due, x.age, x.disputed ? 1 : 0, x.fee ? 1 : 0}[what];
    }

    int promised(int d, int what) {
        if (!isDebtor(d) || world.debtors.get(d).promise == null || !in(what, 0, 2)) {
            return -1;
        }
        Promise p = world.debtors.get(d).promise;
        return new int[] {p.sum, p.day, p.paid}[what];
    }

    int planned(int d, int what) {
        if (!isDebtor(d) || world.debtors.get(d).plan == null) {
            return -1;
        }
        Plan p = world.debtors.get(d).plan;
        if (what == 0) {
            return p.sums.length;
        }
        if (what == 1) {
            return p.paid;
        }
        if (what == 2) {
            for (int day : p.days) {
                if (day >= world.today) {
                    return day;
                }
            }
            return -1;
        }
        if (in(what, 10, 9 + p.sums.length)) {
            return p.sums[what - 10];
        }
        return in(what, 30, 29 + p.days.length) ? p.days[what - 30] : -1;
    }

    int order(int o, int what) {
        if (!in(o, 0, world.orders.size() - 1) || !in(what, 0, 3)) {
            return -1;
        }
        Order x = world.orders.get(o);
        return new int[] {x.debtor, x.sum, x.state, x.invoice}[what];
    }

    int aged(int d, int what) {
        if (d != -1 && !isDebtor(d) || !in(what, 0, 4)) {
            return -100000000;
        }
        int[] least = {0, 1, 31, 61, 0};
        int[] most = {0, 30, 60, Integer.MAX_VALUE, Integer.MAX_VALUE};
        return world.invoices.stream()
            .filter(i -> d == -1 || i.debtor == d)
            .filter(i -> i.disputed == (what == 4))
            .filter(i -> in(i.age, least[what], most[what]))
            .mapToInt(i -> i.open).sum();
    }

    int next(int d) {
        if (!isDebtor(d)) {
            return -1;
        }
        World paper = world.copy();
        for (int days = 1; days <= 200; days++) {
            if (paper.endDay().contains(d)) {
                return days;
            }
        }
        return -2;
    }

    int would(int d, int sum) {
        if (!isDebtor(d) || !in(sum, 1, 99999)) {
            return -1;
        }
        return world.copy().pay(d, sum);
    }

    int bill(int d, int sum, int days) {
        if (!isDebtor(d) || !in(sum, 1, 9999) || !in(days, 0, 99)) {
            return -1;
        }
        if (world.invoices.size() == 60) {
            return -2;
        }
        keep();
        int i = world.invoice(d, sum, world.today + days, false);
        world.place(d);
        return i;
    }

    int pay(int d, int sum) {
        if (!isDebtor(d) || !in(sum, 1, 99999)) {
            return -1;
        }
        keep();
        world.pay(d, sum);
        return world.debtors.get(d).cash;
    }

    boolean dispute(int i) {
        if (!in(i, 0, world.invoices.size() - 1)) {
            return false;
        }
        Invoice x = world.invoices.get(i);
        if (!x.live() || world.debtors.get(x.debtor).plan != null) {
            return false;
        }
        keep();
        x.disputed = true;
        return true;
    }

    int settle(int i, int off) {
        if (!in(i, 0, world.invoices.size() - 1)) {
            return -1;
        }
        Invoice x = world.invoices.get(i);
        if (!x.disputed || !in(off, 0, x.open)) {
            return -1;
        }
        keep();
        x.open -= off;
        x.disputed = false;
        world.place(x.debtor);
        world.release(x.debtor);
        return x.open;
    }

    int promise(int d, int sum, int day) {
        if (!isDebtor(d) || !in(sum, 1, world.debt(d)) || !in(day, world.today, world.today + 30)) {
            return -1;
        }
        Debtor x = world.debtors.get(d);
        if (x.promise != null || x.plan != null) {
            return -2;
        }
        if (x.broken == 2) {
            return -3;
        }
        if (world.court(d)) {
            return -4;
        }
        keep();
        x.promise = new Promise();
        x.promise.sum = sum;
        x.promise.day = day;
        return 0;
    }

    int plan(int d, int n, int days) {
        if (!isDebtor(d) || !in(n, 2, 12) || !in(days, 1, 30)) {
            return -1;
        }
        Debtor x = world.debtors.get(d);
        if (x.plan != null) {
            return -2;
        }
        int debt = world.debt(d);
        if (debt < n) {
            return -3;
        }
        if (world.court(d)) {
            return -4;
        }
        keep();
        x.promise = null;
        x.plan = new Plan();
        x.plan.sums = new int[n];
        x.plan.days = new int[n];
        for (int k = 0; debt > 0; k = (k + 1) % n) {
            x.plan.sums[k]++;
            debt--;
        }
        int day = world.today;
        for (int k = 0; k < n; k++) {
            day += days;
            x.plan.days[k] = day;
        }
        return 0;
    }

    int asks(int d, int sum) {
        if (!isDebtor(d) || !in(sum, 1, 9999)) {
            return -1;
        }
        if (world.orders.size() == 40) {
            return -2;
        }
        keep();
        Order o = new Order();
        o.debtor = d;
        o.sum = sum;
        world.orders.add(o);
        world.release(d);
        return world.orders.size() - 1;
    }

    int ships(int o) {
        if (!in(o, 0, world.orders.size() - 1) || world.orders.get(o).state != 1) {
            return -1;
        }
        if (world.invoices.size() == 60) {
            return -2;
        }
        keep();
        Order x = world.orders.get(o);
        x.state = 2;
        x.invoice = world.invoice(x.debtor, x.sum, world.today + world.debtors.get(x.debtor).terms, false);
        world.place(x.debtor);
        return x.invoice;
    }

    boolean cancel(int o) {
        if (!in(o, 0, world.orders.size() - 1) || world.orders.get(o).state > 1) {
            return false;
        }
        keep();
        world.orders.get(o).state = 3;
        world.release(world.orders.get(o).debtor);
        return true;
    }

    int pass(int days) {
        if (!in(days, 1, 99) || world.today + days > 999) {
            return -1;
        }
        keep();
        for (int i = 0; i < days; i++) {
            world.endDay();
        }
        return world.today;
    }

    int undo() {
        if (kept.isEmpty()) {
            return -1;
        }
        world = kept.removeLast();
        return kept.size();
    }
}
