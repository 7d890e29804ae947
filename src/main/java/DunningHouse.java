import java.util.NoSuchElementException;

/** A dunning house, as ../shared/DOC.md promises it; words in capital letters in comments are the document's. */
public final class DunningHouse {
    public static final int NONE = -1;

    private static final int MOST_STEPS = 6;
    private static final int MOST_DEBTORS = 6;
    private static final int MOST_TOLD_INVOICES = 12;
    private static final int MOST_INVOICES = 60;
    private static final int MOST_ORDERS = 40;
    private static final int MOST_KEPT = 10;
    private static final int MOST_INSTALMENTS = 12;
    private static final int MOST_BROKEN = 2;
    private static final int LAST_DAY = 999;
    private static final int DAYS_ON_PAPER = 200;
    private static final int NO_SUM = NONE - 99999999;

    // The columns of STEPS, INVOICES and ORDERS are numbered as the document numbers its "what".
    private static final int FROM = 0;
    private static final int GAP = 1;
    private static final int FEE = 2;
    private static final int STEP_COLUMNS = 3;

    private static final int INVOICE_DEBTOR = 0;
    private static final int INVOICE_SUM = 1;
    private static final int OPEN = 2;
    private static final int DUE = 3;
    private static final int AGE = 4;
    private static final int DISPUTED = 5;
    private static final int IS_FEE = 6;
    private static final int INVOICE_COLUMNS = 7;

    private static final int ORDER_DEBTOR = 0;
    private static final int ORDER_SUM = 1;
    private static final int STATE = 2;
    private static final int BILLED_BY = 3;
    private static final int ORDER_COLUMNS = 4;

    private static final int WAITS = 0;
    private static final int RELEASED = 1;
    private static final int BILLED = 2;
    private static final int CANCELLED = 3;

    // A PROMISE_SUM or a PLAN_COUNT of 0 says that there is no PROMISE, no PLAN. One column PAID_SINCE serves
    // both, because a DEBTOR never has both.
    private static final int LIMIT = 0;
    private static final int TERMS = 1;
    private static final int CASH = 2;
    private static final int STAGE = 3;
    private static final int STAGE_DAY = 4;
    private static final int BROKEN = 5;
    private static final int PROMISE_SUM = 6;
    private static final int PROMISE_DAY = 7;
    private static final int PLAN_COUNT = 8;
    private static final int PLAN_SUM = 9;
    private static final int PLAN_START = 10;
    private static final int PLAN_DAYS = 11;
    private static final int PAID_SINCE = 12;
    private static final int DEBTOR_COLUMNS = 13;

    private static final int DISPUTED_BRACKET = 4;

    private final Tape tape;
    private final Book book;
    private final Book paper;
    private final History history;
    private int latestFault;

    public DunningHouse() {
        tape = new Tape();
        book = new Book();
        paper = new Book();
        history = new History();
        latestFault = 0;
    }

    public int feed(int a, int b, int c, int d, int e) {
        if (!tape.hasRoom()) {
            return NONE;
        }
        tape.append(a);
        tape.append(b);
        tape.append(c);
        tape.append(d);
        tape.append(e);
        return tape.length();
    }

    public boolean end(int n) {
        return tape.cut(n);
    }

    public int text() {
        paper.clear();
        Reader reader = new Reader(tape, paper);
        int answer = reader.read();
        latestFault = reader.faultKind();
        tape.cut(0);
        if (latestFault == 0) {
            book.copyFrom(paper);
            history.forget();
        }
        return answer;
    }

    public int fault() {
        return latestFault;
    }

    public int now(int what) {
        switch (what) {
            case 0: return book.today;
            case 1: return book.steps.size();
            case 2: return book.debtors.size();
            case 3: return book.invoices.size();
            case 4: return book.orders.size();
            case 5: return book.waiting();
            case 6: return book.owedByAll();
            case 7: return book.cashOfAll();
            case 8: return book.paid;
            case 9: return history.size();
            case 10: return tape.length();
            default: return NONE;
        }
    }

    public int step(int step, int what) {
        return book.steps.get(step, what);
    }

    public int debtor(int debtor, int what) throws NoSuchElementException {
        if (!book.debtors.has(debtor)) {
            throw new NoSuchElementException("no such debtor");
        }
        switch (what) {
            case 0: return book.debtors.get(debtor, LIMIT);
            case 1: return book.debtors.get(debtor, TERMS);
            case 2: return book.owes(debtor);
            case 3: return book.debt(debtor);
            case 4: return book.debtors.get(debtor, CASH);
            case 5: return book.debtors.get(debtor, STAGE);
            case 6: return book.debtors.get(debtor, STAGE_DAY);
            case 7: return book.greatestAge(debtor);
            case 8: return book.debtors.get(debtor, BROKEN);
            case 9: return book.isAtCourt(debtor) ? 1 : 0;
            case 10: return book.risk(debtor);
            default: throw new NoSuchElementException("no such thing of a debtor");
        }
    }

    public int invoice(int invoice, int what) {
        return book.invoices.get(invoice, what);
    }

    public int promised(int debtor, int what) {
        if (!book.debtors.has(debtor) || !book.hasPromise(debtor)) {
            return NONE;
        }
        switch (what) {
            case 0: return book.debtors.get(debtor, PROMISE_SUM);
            case 1: return book.debtors.get(debtor, PROMISE_DAY);
            case 2: return book.debtors.get(debtor, PAID_SINCE);
            default: return NONE;
        }
    }

    public int planned(int debtor, int what) {
        if (!book.debtors.has(debtor) || !book.hasPlan(debtor)) {
            return NONE;
        }
        int count = book.debtors.get(debtor, PLAN_COUNT);
        if (what >= 10 && what < 10 + count) {
            return book.instalment(debtor, what - 10);
        }
        if (what >= 30 && what < 30 + count) {
            return book.instalmentDay(debtor, what - 30);
        }
        switch (what) {
            case 0: return count;
            case 1: return book.debtors.get(debtor, PAID_SINCE);
            case 2: return book.nextInstalmentDay(debtor);
            default: return NONE;
        }
    }

    public int order(int order, int what) {
        return book.orders.get(order, what);
    }

    public int aged(int debtor, int what) {
        boolean isKnown = debtor == NONE || book.debtors.has(debtor);
        if (!isKnown || what < 0 || what > DISPUTED_BRACKET) {
            return NO_SUM;
        }
        return book.openInBracket(debtor, what);
    }

    public int next(int debtor) {
        if (!book.debtors.has(debtor)) {
            return NONE;
        }
        paper.copyFrom(book);
        for (int days = 1; days <= DAYS_ON_PAPER; days++) {
            if (paper.endDayOf(debtor)) {
                return days;
            }
        }
        return -2;
    }

    public int would(int debtor, int sum) {
        if (!mayPay(debtor, sum)) {
            return NONE;
        }
        paper.copyFrom(book);
        return paper.receive(debtor, sum);
    }

    public int bill(int debtor, int sum, int days) {
        if (!book.debtors.has(debtor) || !isSum(sum) || days < 0 || days > 99) {
            return NONE;
        }
        if (book.invoices.isFull()) {
            return -2;
        }
        history.keep(book);
        int number = book.addInvoice(debtor, sum, book.today + days, 0);
        book.placeCash(debtor);
        return number;
    }

    public int pay(int debtor, int sum) {
        if (!mayPay(debtor, sum)) {
            return NONE;
        }
        history.keep(book);
        book.receive(debtor, sum);
        return book.debtors.get(debtor, CASH);
    }

    public boolean dispute(int invoice) {
        if (!book.invoices.has(invoice) || book.invoices.get(invoice, OPEN) == 0
                || book.invoices.get(invoice, DISPUTED) == 1
                || book.hasPlan(book.invoices.get(invoice, INVOICE_DEBTOR))) {
            return false;
        }
        history.keep(book);
        book.invoices.set(invoice, DISPUTED, 1);
        return true;
    }

    public int settle(int invoice, int off) {
        if (!book.invoices.has(invoice) || book.invoices.get(invoice, DISPUTED) == 0
                || off < 0 || off > book.invoices.get(invoice, OPEN)) {
            return NONE;
        }
        history.keep(book);
        book.takeOff(invoice, off);
        return book.invoices.get(invoice, OPEN);
    }

    public int promise(int debtor, int sum, int day) {
        if (!book.debtors.has(debtor) || sum < 1 || sum > book.debt(debtor)
                || day < book.today || day > book.today + 30) {
            return NONE;
        }
        if (book.hasAgreement(debtor)) {
            return -2;
        }
        if (book.debtors.get(debtor, BROKEN) >= MOST_BROKEN) {
            return -3;
        }
        if (book.isAtCourt(debtor)) {
            return -4;
        }
        history.keep(book);
        book.agreePromise(debtor, sum, day);
        return 0;
    }

    public int plan(int debtor, int n, int days) {
        if (!book.debtors.has(debtor) || n < 2 || n > MOST_INSTALMENTS || days < 1 || days > 30) {
            return NONE;
        }
        if (book.hasPlan(debtor)) {
            return -2;
        }
        if (book.debt(debtor) < n) {
            return -3;
        }
        if (book.isAtCourt(debtor)) {
            return -4;
        }
        history.keep(book);
        book.agreePlan(debtor, n, days);
        return 0;
    }

    public int asks(int debtor, int sum) {
        if (!book.debtors.has(debtor) || !isSum(sum)) {
            return NONE;
        }
        if (book.orders.isFull()) {
            return -2;
        }
        history.keep(book);
        return book.addOrder(debtor, sum);
    }

    public int ships(int order) {
        if (!book.orders.has(order) || book.orders.get(order, STATE) != RELEASED) {
            return NONE;
        }
        if (book.invoices.isFull()) {
            return -2;
        }
        history.keep(book);
        return book.billOrder(order);
    }

    public boolean cancel(int order) {
        if (!book.orders.has(order) || book.orders.get(order, STATE) > RELEASED) {
            return false;
        }
        history.keep(book);
        book.orders.set(order, STATE, CANCELLED);
        book.release(book.orders.get(order, ORDER_DEBTOR));
        return true;
    }

    public int pass(int days) {
        if (days < 1 || days > 99 || book.today + days > LAST_DAY) {
            return NONE;
        }
        history.keep(book);
        for (int i = 0; i < days; i++) {
            book.endDay();
        }
        return book.today;
    }

    public int undo() {
        if (history.size() == 0) {
            return NONE;
        }
        history.restore(book);
        return history.size();
    }

    private boolean mayPay(int debtor, int sum) {
        return book.debtors.has(debtor) && sum >= 1 && sum <= 99999;
    }

    private static boolean isSum(int sum) {
        return sum >= 1 && sum <= 9999;
    }

    /** Rows of numbers in one array, so that a copy is one arraycopy; no row or column can go astray in it. */
    private static final class Table {
        private final int[] cells;
        private final int width;
        private int rows;

        Table(int mostRows, int columns) {
            cells = new int[Math.max(0, mostRows * columns)];
            width = Math.max(1, columns);
            rows = 0;
        }

        int size() {
            return rows;
        }

        boolean has(int row) {
            return row >= 0 && row < rows;
        }

        boolean isFull() {
            return (rows + 1) * width > cells.length;
        }

        int get(int row, int column) {
            if (row < 0 || row >= rows || column < 0 || column >= width) {
                return NONE;
            }
            int at = row * width + column;
            return at >= 0 && at < cells.length ? cells[at] : NONE;
        }

        void set(int row, int column, int value) {
            if (row < 0 || row >= rows || column < 0 || column >= width) {
                return;
            }
            int at = row * width + column;
            if (at >= 0 && at < cells.length) {
                cells[at] = value;
            }
        }

        void increase(int row, int column, int by) {
            set(row, column, get(row, column) + by);
        }

        /** A further row of zeros: its number; NONE, if the table is full. */
        int add() {
            if (isFull()) {
                return NONE;
            }
            int row = rows;
            rows++;
            for (int column = 0; column < width; column++) {
                set(row, column, 0);
            }
            return row;
        }

        void clear() {
            rows = 0;
        }

        void copyFrom(Table other) {
            rows = other.rows;
            int used = Math.min(rows * width, Math.min(cells.length, other.cells.length));
            System.arraycopy(other.cells, 0, cells, 0, Math.max(0, used));
        }
    }

    /** All that a TEXT begins and acts change: it is kept for undo() and copied for what is asked on paper. */
    private static final class Book {
        final Table steps;
        final Table debtors;
        final Table invoices;
        final Table orders;
        int hold;
        int today;
        int paid;

        Book() {
            steps = new Table(MOST_STEPS, STEP_COLUMNS);
            debtors = new Table(MOST_DEBTORS, DEBTOR_COLUMNS);
            invoices = new Table(MOST_INVOICES, INVOICE_COLUMNS);
            orders = new Table(MOST_ORDERS, ORDER_COLUMNS);
            hold = 1;
        }

        void clear() {
            steps.clear();
            debtors.clear();
            invoices.clear();
            orders.clear();
            hold = 1;
            today = 0;
            paid = 0;
        }

        void copyFrom(Book other) {
            steps.copyFrom(other.steps);
            debtors.copyFrom(other.debtors);
            invoices.copyFrom(other.invoices);
            orders.copyFrom(other.orders);
            hold = other.hold;
            today = other.today;
            paid = other.paid;
        }

        void addStep(int from, int gap, int fee) {
            int row = steps.add();
            steps.set(row, FROM, from);
            steps.set(row, GAP, gap);
            steps.set(row, FEE, fee);
        }

        void addDebtor(int limit, int terms) {
            int row = debtors.add();
            debtors.set(row, LIMIT, limit);
            debtors.set(row, TERMS, terms);
        }

        int addInvoice(int debtor, int sum, int due, int isFee) {
            int row = invoices.add();
            invoices.set(row, INVOICE_DEBTOR, debtor);
            invoices.set(row, INVOICE_SUM, sum);
            invoices.set(row, OPEN, sum);
            invoices.set(row, DUE, due);
            invoices.set(row, IS_FEE, isFee);
            return row;
        }

        int addOrder(int debtor, int sum) {
            int row = orders.add();
            orders.set(row, ORDER_DEBTOR, debtor);
            orders.set(row, ORDER_SUM, sum);
            orders.set(row, STATE, WAITS);
            orders.set(row, BILLED_BY, NONE);
            release(debtor);
            return row;
        }

        int billOrder(int order) {
            int debtor = orders.get(order, ORDER_DEBTOR);
            int due = today + debtors.get(debtor, TERMS);
            int row = addInvoice(debtor, orders.get(order, ORDER_SUM), due, 0);
            orders.set(order, STATE, BILLED);
            orders.set(order, BILLED_BY, row);
            placeCash(debtor);
            return row;
        }

        /** A payment comes: how many ORDERS it RELEASED. */
        int receive(int debtor, int sum) {
            paid += sum;
            debtors.increase(debtor, CASH, sum);
            debtors.increase(debtor, PAID_SINCE, sum);
            placeCash(debtor);
            return release(debtor);
        }

        void takeOff(int invoice, int off) {
            int debtor = invoices.get(invoice, INVOICE_DEBTOR);
            invoices.increase(invoice, OPEN, -off);
            invoices.set(invoice, DISPUTED, 0);
            placeCash(debtor);
            release(debtor);
        }

        void agreePromise(int debtor, int sum, int day) {
            debtors.set(debtor, PROMISE_SUM, sum);
            debtors.set(debtor, PROMISE_DAY, day);
            debtors.set(debtor, PAID_SINCE, 0);
        }

        void agreePlan(int debtor, int count, int days) {
            debtors.set(debtor, PROMISE_SUM, 0);
            debtors.set(debtor, PLAN_COUNT, count);
            debtors.set(debtor, PLAN_SUM, debt(debtor));
            debtors.set(debtor, PLAN_START, today);
            debtors.set(debtor, PLAN_DAYS, days);
            debtors.set(debtor, PAID_SINCE, 0);
        }

        boolean hasPromise(int debtor) {
            return debtors.get(debtor, PROMISE_SUM) > 0;
        }

        boolean hasPlan(int debtor) {
            return debtors.get(debtor, PLAN_COUNT) > 0;
        }

        boolean hasAgreement(int debtor) {
            return hasPromise(debtor) || hasPlan(debtor);
        }

        boolean isAtCourt(int debtor) {
            return steps.size() > 0 && debtors.get(debtor, STAGE) >= steps.size();
        }

        /** OPEN and not DISPUTED: what ages, is dunned for, and takes CASH. */
        boolean isClaim(int invoice, int debtor) {
            return invoices.get(invoice, INVOICE_DEBTOR) == debtor
                    && invoices.get(invoice, OPEN) > 0
                    && invoices.get(invoice, DISPUTED) == 0;
        }

        int owes(int debtor) {
            int sum = 0;
            for (int i = 0; i < invoices.size(); i++) {
                if (invoices.get(i, INVOICE_DEBTOR) == debtor) {
                    sum += invoices.get(i, OPEN);
                }
            }
            return sum;
        }

        int debt(int debtor) {
            int sum = 0;
            for (int i = 0; i < invoices.size(); i++) {
                if (isClaim(i, debtor)) {
                    sum += invoices.get(i, OPEN);
                }
            }
            return sum;
        }

        int greatestAge(int debtor) {
            int greatest = 0;
            for (int i = 0; i < invoices.size(); i++) {
                if (isClaim(i, debtor)) {
                    greatest = Math.max(greatest, invoices.get(i, AGE));
                }
            }
            return greatest;
        }

        int risk(int debtor) {
            int sum = owes(debtor) - debtors.get(debtor, CASH);
            for (int i = 0; i < orders.size(); i++) {
                if (orders.get(i, ORDER_DEBTOR) == debtor && orders.get(i, STATE) == RELEASED) {
                    sum += orders.get(i, ORDER_SUM);
                }
            }
            return sum;
        }

        int waiting() {
            int count = 0;
            for (int i = 0; i < orders.size(); i++) {
                if (orders.get(i, STATE) == WAITS) {
                    count++;
                }
            }
            return count;
        }

        int owedByAll() {
            int sum = 0;
            for (int i = 0; i < invoices.size(); i++) {
                sum += invoices.get(i, OPEN);
            }
            return sum;
        }

        int cashOfAll() {
            int sum = 0;
            for (int i = 0; i < debtors.size(); i++) {
                sum += debtors.get(i, CASH);
            }
            return sum;
        }

        int openInBracket(int debtor, int bracket) {
            int sum = 0;
            for (int i = 0; i < invoices.size(); i++) {
                boolean isAsked = debtor == NONE || invoices.get(i, INVOICE_DEBTOR) == debtor;
                if (isAsked && bracketOf(i) == bracket) {
                    sum += invoices.get(i, OPEN);
                }
            }
            return sum;
        }

        private int bracketOf(int invoice) {
            if (invoices.get(invoice, DISPUTED) == 1) {
                return DISPUTED_BRACKET;
            }
            int age = invoices.get(invoice, AGE);
            if (age > 60) {
                return 3;
            }
            if (age > 30) {
                return 2;
            }
            return age > 0 ? 1 : 0;
        }

        /** What the first so many INSTALMENTS come to; the ones in front bear what the division leaves. */
        private int instalmentsTogether(int debtor, int many) {
            int count = debtors.get(debtor, PLAN_COUNT);
            int sum = debtors.get(debtor, PLAN_SUM);
            if (count <= 0) {
                return 0;
            }
            return many * (sum / count) + Math.min(many, sum % count);
        }

        int instalment(int debtor, int k) {
            return instalmentsTogether(debtor, k + 1) - instalmentsTogether(debtor, k);
        }

        int instalmentDay(int debtor, int k) {
            return debtors.get(debtor, PLAN_START) + (k + 1) * debtors.get(debtor, PLAN_DAYS);
        }

        int nextInstalmentDay(int debtor) {
            int count = debtors.get(debtor, PLAN_COUNT);
            for (int k = 0; k < count; k++) {
                int day = instalmentDay(debtor, k);
                if (day >= today) {
                    return day;
                }
            }
            return NONE;
        }

        void placeCash(int debtor) {
            for (int i = 0; i < MOST_INVOICES; i++) {
                int cash = debtors.get(debtor, CASH);
                int eldest = cash > 0 ? eldestClaim(debtor) : NONE;
                if (eldest == NONE) {
                    return;
                }
                int part = Math.min(cash, invoices.get(eldest, OPEN));
                invoices.increase(eldest, OPEN, -part);
                debtors.increase(debtor, CASH, -part);
            }
        }

        private int eldestClaim(int debtor) {
            int eldest = NONE;
            for (int i = 0; i < invoices.size(); i++) {
                if (isClaim(i, debtor)
                        && (eldest == NONE || invoices.get(i, DUE) < invoices.get(eldest, DUE))) {
                    eldest = i;
                }
            }
            return eldest;
        }

        /** ORDERS of a DEBTOR are RELEASED: how many. */
        int release(int debtor) {
            int count = 0;
            for (int i = 0; i < orders.size(); i++) {
                if (orders.get(i, ORDER_DEBTOR) == debtor && orders.get(i, STATE) == WAITS) {
                    if (!mayRelease(i, debtor)) {
                        return count;
                    }
                    orders.set(i, STATE, RELEASED);
                    count++;
                }
            }
            return count;
        }

        private boolean mayRelease(int order, int debtor) {
            return debtors.get(debtor, STAGE) < hold
                    && risk(debtor) + orders.get(order, ORDER_SUM) <= debtors.get(debtor, LIMIT);
        }

        /** Each part of A DAY's END goes over all DEBTORS ahead of the next part, as the document has it. */
        void endDay() {
            ageInvoices();
            for (int i = 0; i < debtors.size(); i++) {
                closeAgreement(i);
            }
            today++;
            for (int i = 0; i < debtors.size(); i++) {
                doStep(i);
            }
            for (int i = 0; i < debtors.size(); i++) {
                release(i);
            }
        }

        /**
         * A DAY ENDS for one DEBTOR alone: whether a STEP is done. Enough for next(), because no other DEBTOR
         * and no ORDER has a say in when a STEP is done.
         */
        boolean endDayOf(int debtor) {
            ageInvoices();
            closeAgreement(debtor);
            today++;
            return doStep(debtor);
        }

        private void ageInvoices() {
            for (int i = 0; i < invoices.size(); i++) {
                int debtor = invoices.get(i, INVOICE_DEBTOR);
                if (today >= invoices.get(i, DUE) && isClaim(i, debtor) && !hasAgreement(debtor)) {
                    invoices.increase(i, AGE, 1);
                }
            }
        }

        private void closeAgreement(int debtor) {
            if (hasPromise(debtor) && debtors.get(debtor, PROMISE_DAY) <= today) {
                if (debtors.get(debtor, PAID_SINCE) < debtors.get(debtor, PROMISE_SUM)) {
                    debtors.increase(debtor, BROKEN, 1);
                }
                debtors.set(debtor, PROMISE_SUM, 0);
            }
            if (hasPlan(debtor) && isPlanOver(debtor)) {
                debtors.set(debtor, PLAN_COUNT, 0);
            }
        }

        /** Broken or kept: nothing that the document tells hangs on which of them. */
        private boolean isPlanOver(int debtor) {
            int last = debtors.get(debtor, PLAN_COUNT) - 1;
            for (int k = 0; k <= last; k++) {
                if (instalmentDay(debtor, k) == today) {
                    boolean isBroken = debtors.get(debtor, PAID_SINCE) < instalmentsTogether(debtor, k + 1);
                    if (isBroken || k == last) {
                        return true;
                    }
                }
            }
            return debt(debtor) == 0;
        }

        private boolean doStep(int debtor) {
            int age = greatestAge(debtor);
            if (age == 0) {
                if (!isAtCourt(debtor)) {
                    debtors.set(debtor, STAGE, 0);
                }
                return false;
            }
            int stage = debtors.get(debtor, STAGE);
            if (hasAgreement(debtor) || !isStepRipe(debtor, stage, age)) {
                return false;
            }
            debtors.set(debtor, STAGE, stage + 1);
            debtors.set(debtor, STAGE_DAY, today);
            int fee = steps.get(stage, FEE);
            if (fee > 0 && !invoices.isFull()) {
                addInvoice(debtor, fee, today, 1);
                placeCash(debtor);
            }
            return true;
        }

        private boolean isStepRipe(int debtor, int stage, int age) {
            if (!steps.has(stage) || age < steps.get(stage, FROM)) {
                return false;
            }
            return stage == 0 || today - debtors.get(debtor, STAGE_DAY) >= steps.get(stage, GAP);
        }
    }

    /** The books as they were ahead of the latest acts, in a ring, so that the oldest gives way. */
    private static final class History {
        private final Book[] kept;
        private int count;
        private int top;

        History() {
            kept = new Book[MOST_KEPT];
            for (int i = 0; i < kept.length; i++) {
                kept[i] = new Book();
            }
            count = 0;
            top = 0;
        }

        int size() {
            return count;
        }

        void forget() {
            count = 0;
        }

        void keep(Book book) {
            if (top < 0 || top >= kept.length || kept[top] == null) {
                return;
            }
            kept[top].copyFrom(book);
            top = top + 1 < kept.length ? top + 1 : 0;
            count = Math.min(count + 1, kept.length);
        }

        void restore(Book book) {
            int latest = top > 0 ? top - 1 : kept.length - 1;
            if (count == 0 || latest < 0 || latest >= kept.length || kept[latest] == null) {
                return;
            }
            book.copyFrom(kept[latest]);
            top = latest;
            count--;
        }
    }

    /** The bytes that were fed and not yet read. */
    private static final class Tape {
        private static final int MOST_BYTES = 640;
        private static final int FED_AT_ONCE = 20;

        private final byte[] bytes;
        private int used;

        Tape() {
            bytes = new byte[MOST_BYTES];
            used = 0;
        }

        int length() {
            return used;
        }

        boolean hasRoom() {
            return used + FED_AT_ONCE <= bytes.length;
        }

        void append(int number) {
            for (int shift = 24; shift >= 0; shift -= 8) {
                if (used >= 0 && used < bytes.length) {
                    bytes[used] = (byte) (number >> shift);
                    used++;
                }
            }
        }

        boolean cut(int n) {
            if (n < 0 || n > used) {
                return false;
            }
            used = n;
            return true;
        }

        /** 0 to 255; NONE, where the tape has no byte. */
        int at(int place) {
            return place >= 0 && place < used && place < bytes.length ? bytes[place] & 255 : NONE;
        }
    }

    /** Reads a TEXT into a cleared book. Behind the first FAULT it takes no TOKEN more, so its place stays. */
    private static final class Reader {
        private static final int LONGEST_TEXT = 600;
        private static final int LONGEST_NUMBER = 4;
        private static final int MOST_LINES = MOST_STEPS + 1 + MOST_DEBTORS + MOST_TOLD_INVOICES;

        // Kinds of TOKENS; the end of the text is read as one.
        private static final int NO_TOKEN = 0;
        private static final int WORD = 1;
        private static final int NUMBER = 2;
        private static final int SEMICOLON = 3;
        private static final int END = 4;

        // Sorts of LINES, in the order in which they come.
        private static final int STEP_LINE = 0;
        private static final int HOLD_LINE = 1;
        private static final int DEBTOR_LINE = 2;
        private static final int INVOICE_LINE = 3;

        private static final int CANNOT_COME = 1;
        private static final int NOT_AS_TOLD = 2;
        private static final int ONE_TOO_MANY = 3;

        private final Tape tape;
        private final Book draft;
        private int kind;
        private int begin;
        private int past;
        private int value;
        private int latestSort;
        private int fault;

        Reader(Tape tape, Book draft) {
            this.tape = tape;
            this.draft = draft;
            latestSort = STEP_LINE;
        }

        int faultKind() {
            return fault;
        }

        /** How many LINES; -1 less the place of a FAULT. */
        int read() {
            for (int lines = 0; lines <= MOST_LINES; lines++) {
                advance();
                if (kind == END && latestSort >= HOLD_LINE) {
                    return lines;
                }
                takeSort();
                switch (fault == 0 ? latestSort : NONE) {
                    case STEP_LINE: readStep(); break;
                    case HOLD_LINE: readHold(); break;
                    case DEBTOR_LINE: readDebtor(); break;
                    case INVOICE_LINE: readInvoice(); break;
                    default: break;
                }
                if (fault != 0) {
                    return -1 - begin;
                }
            }
            // Out of reach: of each sort one more than told is a FAULT ahead of this.
            fault = ONE_TOO_MANY;
            return -1 - begin;
        }

        private void takeSort() {
            int sort = kind == WORD ? sortOfWord() : NONE;
            if (!mayComeNow(sort)) {
                fault = CANNOT_COME;
            } else if (hasAllOf(sort)) {
                fault = ONE_TOO_MANY;
            } else {
                latestSort = sort;
            }
        }

        private int sortOfWord() {
            if (isWord("step")) {
                return STEP_LINE;
            }
            if (isWord("hold")) {
                return HOLD_LINE;
            }
            if (isWord("debtor")) {
                return DEBTOR_LINE;
            }
            return isWord("invoice") ? INVOICE_LINE : NONE;
        }

        private boolean mayComeNow(int sort) {
            switch (latestSort) {
                case STEP_LINE: return sort == STEP_LINE || sort == HOLD_LINE;
                case INVOICE_LINE: return sort == INVOICE_LINE;
                default: return sort == DEBTOR_LINE || sort == INVOICE_LINE;
            }
        }

        private boolean hasAllOf(int sort) {
            switch (sort) {
                case STEP_LINE: return draft.steps.size() >= MOST_STEPS;
                case DEBTOR_LINE: return draft.debtors.size() >= MOST_DEBTORS;
                case INVOICE_LINE: return draft.invoices.size() >= MOST_TOLD_INVOICES;
                default: return false;
            }
        }

        private void readStep() {
            int from = takeNumber(1, 99);
            int gap = takeNumber(0, 99);
            int fee = takeNumber(0, 999);
            if (takeSemicolon()) {
                draft.addStep(from, gap, fee);
            }
        }

        private void readHold() {
            int stages = takeNumber(1, 9);
            if (takeSemicolon()) {
                draft.hold = stages;
            }
        }

        private void readDebtor() {
            int limit = takeNumber(0, 9999);
            int terms = takeNumber(0, 99);
            if (takeSemicolon()) {
                draft.addDebtor(limit, terms);
            }
        }

        private void readInvoice() {
            int debtor = takeNumber(0, draft.debtors.size() - 1);
            int sum = takeNumber(1, 9999);
            int due = takeNumber(0, 99);
            if (takeSemicolon()) {
                draft.addInvoice(debtor, sum, due, 0);
            }
        }

        private int takeNumber(int least, int most) {
            if (fault != 0) {
                return 0;
            }
            advance();
            if (kind != NUMBER) {
                fault = CANNOT_COME;
            } else if (value < least || value > most) {
                fault = NOT_AS_TOLD;
            }
            return value;
        }

        /** Whether the LINE is whole, without a FAULT. */
        private boolean takeSemicolon() {
            if (fault != 0) {
                return false;
            }
            advance();
            if (kind != SEMICOLON) {
                fault = CANNOT_COME;
            }
            return fault == 0;
        }

        private void advance() {
            int length = tape.length();
            begin = past;
            while (begin < length && isBlank(tape.at(begin))) {
                begin++;
            }
            past = begin;
            if (length > LONGEST_TEXT && begin >= LONGEST_TEXT) {
                begin = LONGEST_TEXT;
                kind = NO_TOKEN;
            } else if (begin >= length) {
                kind = END;
            } else if (tape.at(begin) == ';') {
                past++;
                kind = SEMICOLON;
            } else {
                scanRun(length);
            }
        }

        /** A WORD or NUMBER, which is read whole even where it goes over the longest text's end. */
        private void scanRun(int length) {
            int letters = 0;
            int digits = 0;
            value = 0;
            while (past < length && (isLetter(tape.at(past)) || isDigit(tape.at(past)))) {
                if (isLetter(tape.at(past))) {
                    letters++;
                } else {
                    digits++;
                    value = value * 10 + tape.at(past) - '0';
                }
                past++;
            }
            if (letters > 0 && digits == 0) {
                kind = WORD;
            } else if (letters == 0 && digits > 0 && digits <= LONGEST_NUMBER) {
                kind = NUMBER;
            } else {
                kind = NO_TOKEN;
            }
        }

        private boolean isWord(String word) {
            if (past - begin != word.length()) {
                return false;
            }
            for (int i = 0; i < word.length(); i++) {
                if (tape.at(begin + i) != word.charAt(i)) {
                    return false;
                }
            }
            return true;
        }

        private static boolean isBlank(int sign) {
            return sign == 32 || sign == 10;
        }

        private static boolean isLetter(int sign) {
            return sign >= 'a' && sign <= 'z';
        }

        private static boolean isDigit(int sign) {
            return sign >= '0' && sign <= '9';
        }
    }
}
