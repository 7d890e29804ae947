/** Each promise of the document by its number: ordinary inputs, the edges that it names, wrong inputs. */
public final class PromiseTest {
    private static final int NO_SUM = -100000000;
    private static final int LEAST = Integer.MIN_VALUE;
    private static final int MOST = Integer.MAX_VALUE;

    // Letters at ages 3, 5 and 8; debtor 0 owes 200 due on day 1 and 100 on day 4, debtor 1 owes 80 due on day 0.
    private static final String HOUSE = "step 3 0 10; step 5 2 0; step 8 2 50; hold 2;"
        + "debtor 500 10; debtor 100 5; invoice 0 200 1; invoice 0 100 4; invoice 1 80 0;";

    private PromiseTest() {
    }

    public static void main(String[] args) {
        newObject();
        feed();
        end();
        textLines();
        textFaults();
        textRanges();
        textTooLong();
        textBeginsAnew();
        fault();
        now();
        step();
        debtor();
        invoice();
        promised();
        planned();
        order();
        aged();
        next();
        nextOnPaper();
        would();
        bill();
        pay();
        dispute();
        settle();
        promise();
        plan();
        planEnds();
        asks();
        ships();
        cancel();
        pass();
        dayAges();
        daySteps();
        dayFees();
        dayStageFallsBack();
        dayReleases();
        undo();
        undoKeepsTen();
        refusedChangesNothing();
        Check.finish("PromiseTest");
    }

    /** Promise 1. */
    private static void newObject() {
        DunningHouse x = new DunningHouse();
        for (int what = 0; what <= 10; what++) {
            Check.same("new: now(" + what + ")", x.now(what), 0);
        }
        Check.same("new: fault()", x.fault(), 0);
        Check.same("new: step(0, 0)", x.step(0, 0), -1);
        Check.same("new: text()", x.text(), -1);
        Check.same("new: fault() of an empty tape", x.fault(), 1);
        Check.same("NONE", DunningHouse.NONE, -1);
    }

    /** Promise 2. */
    private static void feed() {
        DunningHouse x = new DunningHouse();
        for (int i = 1; i <= 32; i++) {
            Check.same("feed " + i, x.feed(0, 0, 0, 0, 0), 20 * i);
        }
        Check.same("feed over 640", x.feed(1, 2, 3, 4, 5), -1);
        Check.same("tape behind a refused feed", x.now(10), 640);
        x.end(621);
        Check.same("feed from 621", x.feed(1, 2, 3, 4, 5), -1);
        x.end(620);
        Check.same("feed from 620", x.feed(1, 2, 3, 4, 5), 640);
        x.end(0);
        // "hold" " 9;d" "ebto" "r 1 " "2;" and two blanks: the highest byte of each number comes first.
        Check.same("feed of a text", x.feed(0x686f6c64, 0x20393b64, 0x6562746f, 0x72203120, 0x323b2020), 20);
        Check.same("text that was fed", x.text(), 2);
        Check.same("limit that was fed", x.debtor(0, 0), 1);
        Check.same("terms that were fed", x.debtor(0, 1), 2);
    }

    /** Promise 3. */
    private static void end() {
        DunningHouse x = new DunningHouse();
        Check.same("end(0) of none", x.end(0), true);
        Check.same("end(1) of none", x.end(1), false);
        x.feed(0, 0, 0, 0, 0);
        Check.same("end(-1)", x.end(-1), false);
        Check.same("end(21)", x.end(21), false);
        Check.same("end(LEAST)", x.end(LEAST), false);
        Check.same("end(MOST)", x.end(MOST), false);
        Check.same("tape behind refused ends", x.now(10), 20);
        Check.same("end(20)", x.end(20), true);
        Check.same("tape behind end(20)", x.now(10), 20);
        Check.same("end(7)", x.end(7), true);
        Check.same("tape behind end(7)", x.now(10), 7);
        Check.same("end(8) of 7", x.end(8), false);
    }

    private static void told(String text, int answer, int kind) {
        DunningHouse x = new DunningHouse();
        Check.same("text() of '" + text + "'", Check.tell(x, text), answer);
        Check.same("fault() of '" + text + "'", x.fault(), kind);
        Check.same("tape behind '" + text + "'", x.now(10), 0);
    }

    private static void fine(String text, int lines) {
        told(text, lines, 0);
    }

    private static void faulty(String text, int place, int kind) {
        told(text, -1 - place, kind);
    }

    /** Promise 4: what is a TEXT. */
    private static void textLines() {
        fine("hold 1;", 1);
        fine("\n hold\n1 ;\n ", 1);
        fine("step 1 0 0;hold 9;", 2);
        fine("hold 0009;debtor 0000 0;invoice 0 0001 00;", 3);
        fine("hold 1;debtor 9999 99;invoice 0 9999 99;", 3);
        fine("step 99 99 999;hold 1;debtor 0 0;", 3);
        fine(HOUSE, 9);
        fine("step 1 1 1;".repeat(6) + "hold 1;" + "debtor 1 1;".repeat(6) + "invoice 5 1 1;".repeat(12), 25);
    }

    /** Promises 4 and 5: where a FAULT is, and its kind. */
    private static void textFaults() {
        faulty("", 0, 1);
        faulty("   ", 3, 1);
        faulty("hold", 4, 1);
        faulty("hold ", 5, 1);
        faulty("hold 1 ", 7, 1);
        faulty("step 1 1 1;", 11, 1);
        faulty("hold 1; debtor 1 1", 18, 1);
        faulty("hold1;", 0, 1);
        faulty("hold 1a;", 5, 1);
        faulty("hold 00001;", 5, 1);
        faulty("hold 1; Debtor 1 1;", 8, 1);
        faulty("hold 1;\tdebtor 1 1;", 7, 1);
        faulty("hold 1;\rdebtor 1 1;", 7, 1);
        faulty("hold 1;\u0000", 7, 1);
        faulty("hold 1;\u00ff", 7, 1);
        faulty("hold 1,", 6, 1);
        faulty("hold ;", 5, 1);
        faulty("hold x;", 5, 1);
        faulty("hold 1 2;", 7, 1);
        faulty("hold 1;;", 7, 1);
        faulty("hold 1; 5", 8, 1);
        faulty("holds 1;", 0, 1);
        faulty("holdz 1;", 0, 1);
        faulty("holda 1;", 0, 1);
        faulty("told 1;", 0, 1);
        faulty("hole 1;", 0, 1);
        faulty("hol 1;", 0, 1);
        faulty("hold 1; hold 1;", 8, 1);
        faulty("hold 1; step 1 1 1;", 8, 1);
        faulty("debtor 1 1; hold 1;", 0, 1);
        faulty("invoice 0 1 1;", 0, 1);
        faulty("step 1 1 1; debtor 1 1;", 12, 1);
        faulty("hold 1;debtor 1 1;invoice 0 1 1;debtor 1 1;", 32, 1);
        faulty("hold 1;debtor 1 1;invoice 0 1 1;hold 1;", 32, 1);
        // The first along the text; of one TOKEN the one that stands first.
        faulty("hold 0; !", 5, 2);
        faulty("hold ! 0", 5, 1);
        faulty("step 1 1 1;".repeat(6) + "step 0", 66, 3);
        faulty("step 1 1 1;".repeat(6) + "hold 1;step 1 1 1;", 73, 1);
        faulty("hold 1;" + "debtor 1 1;".repeat(7), 73, 3);
        faulty("hold 1;debtor 1 1;" + "invoice 0 1 1;".repeat(13), 186, 3);
        faulty("hold 1;debtor 1 1;" + "invoice 0 1 1;".repeat(12) + "debtor 1 1;", 186, 1);
    }

    /** Promise 4: numbers that are not as told. */
    private static void textRanges() {
        faulty("step 0 0 0;", 5, 2);
        faulty("step 100 0 0;", 5, 2);
        faulty("step 1 100 0;", 7, 2);
        faulty("step 1 0 1000;", 9, 2);
        faulty("hold 0;", 5, 2);
        faulty("hold 10;", 5, 2);
        faulty("hold 1;debtor 1 100;", 16, 2);
        faulty("hold 1;invoice 0 1 1;", 15, 2);
        faulty("hold 1;debtor 1 1;invoice 1 1 1;", 26, 2);
        faulty("hold 1;debtor 1 1;invoice 0 0 1;", 28, 2);
        faulty("hold 1;debtor 1 1;invoice 0 1 100;", 30, 2);
        fine("hold 1;debtor 1 1;debtor 1 1;invoice 1 1 0;", 4);
    }

    private static String wide(String front, int blanks, String back) {
        return front + " ".repeat(blanks) + back;
    }

    /** Promise 4: more than 600 bytes. */
    private static void textTooLong() {
        fine(wide("hold 1;", 593, ""), 1);
        faulty(wide("hold 1;", 594, ""), 600, 1);
        faulty(wide("hold 1;", 633, ""), 600, 1);
        faulty(wide("hold 1;", 593, "!"), 600, 1);
        faulty(wide("hold 1;", 592, "!!"), 599, 1);
        faulty(wide("", 601, ""), 600, 1);
        faulty(wide("", 600, ""), 600, 1);
        faulty(wide("", 599, ""), 599, 1);
        // A TOKEN that begins ahead of 600 is read whole.
        faulty(wide("hold", 594, "0;"), 598, 2);
        faulty(wide("hold", 595, "10;"), 599, 2);
        faulty(wide("hold", 595, "00010;"), 599, 1);
        faulty(wide("hold", 595, "0001;"), 600, 1);
        faulty(wide("hold", 596, "0;"), 600, 1);
        faulty(wide("hold 1;", 592, "debtor 1 1;"), 600, 1);
        faulty(wide("hold 1;", 592, "debtors 1 1;"), 599, 1);
        faulty(wide("hold 1;debtor 1 1", 582, ";;"), 600, 1);
        faulty(wide("hold 0;", 620, ""), 5, 2);
    }

    /** Promise 4: a TEXT begins all anew; with a FAULT all stays. */
    private static void textBeginsAnew() {
        DunningHouse x = Check.told(HOUSE);
        x.asks(0, 150);
        x.pay(1, 500);
        x.pass(5);
        x.promise(0, 1, 9);
        String before = Check.seen(x);
        Check.same("a text with a fault", Check.tell(x, "step 9 9 9; hold 9; debtor 7 7; nothing"), -33);
        Check.same("all stays", Check.seen(x).replace("fault 1", "fault 0"), before);
        Check.same("what can be undone stays", x.now(9), 4);
        Check.same("a new text", Check.tell(x, "hold 1; debtor 7 8; invoice 0 5 6;"), 3);
        Check.same("all begins anew", Check.seen(x), Check.seen(Check.told("hold 1; debtor 7 8; invoice 0 5 6;")));
        Check.same("nothing can be undone", x.undo(), -1);
        Check.same("no step is left", x.now(1), 0);
        Check.same("nothing was paid", x.now(8), 0);
        Check.same("a text without debtors", Check.tell(x, "hold 1;"), 1);
        Check.same("no debtor is left", x.now(2), 0);
        Check.same("no invoice is left", x.now(3), 0);
    }

    /** Promise 5. */
    private static void fault() {
        DunningHouse x = new DunningHouse();
        Check.tell(x, "hold 0;");
        Check.same("fault of a number", x.fault(), 2);
        Check.same("fault stays", x.fault(), 2);
        Check.tell(x, "step 1 1 1;".repeat(7));
        Check.same("fault of a line", x.fault(), 3);
        Check.tell(x, "hold");
        Check.same("fault of the end", x.fault(), 1);
        Check.tell(x, "hold 1;");
        Check.same("no fault", x.fault(), 0);
    }

    /** Promise 6. */
    private static void now() {
        DunningHouse x = Check.told(HOUSE);
        x.asks(0, 150);
        x.asks(0, 100);
        x.asks(1, 30);
        x.pay(1, 90);
        x.asks(1, 100);
        x.pass(2);
        x.feed(0, 0, 0, 0, 0);
        int[] due = {2, 3, 2, 3, 4, 2, 300, 10, 90, 6, 20};
        for (int what = 0; what < due.length; what++) {
            Check.same("now(" + what + ")", x.now(what), due[what]);
        }
        x.dispute(0);
        Check.same("disputed ones are owed", x.now(6), 300);
        x.pay(0, 160);
        Check.same("cash of both", x.now(7), 70);
        DunningHouse y = Check.told("hold 1; debtor 10 1;");
        y.asks(0, 11);
        y.asks(0, 12);
        y.asks(0, 13);
        y.cancel(2);
        Check.same("orders that wait", y.now(5), 2);
        for (int what : new int[] {-1, 11, LEAST, MOST}) {
            Check.same("now(" + what + ")", x.now(what), -1);
        }
    }

    /** Promise 7. */
    private static void step() {
        DunningHouse x = Check.told("step 99 98 999; step 1 0 0; hold 1;");
        Check.same("step(0, 0)", x.step(0, 0), 99);
        Check.same("step(0, 1)", x.step(0, 1), 98);
        Check.same("step(0, 2)", x.step(0, 2), 999);
        Check.same("step(1, 0)", x.step(1, 0), 1);
        for (int none : new int[] {-1, 3, LEAST, MOST}) {
            Check.same("step(0, " + none + ")", x.step(0, none), -1);
            Check.same("step(" + none + ", 0)", x.step(none, 0), -1);
        }
        Check.same("step(2, 0)", x.step(2, 0), -1);
    }

    private static void row(String name, DunningHouse x, int debtor, int... due) {
        for (int what = 0; what < due.length; what++) {
            Check.same(name + ": debtor(" + debtor + ", " + what + ")", x.debtor(debtor, what), due[what]);
        }
    }

    /** Promise 8. */
    private static void debtor() {
        DunningHouse x = Check.told(HOUSE);
        row("at first", x, 0, 500, 10, 300, 300, 0, 0, 0, 0, 0, 0, 300);
        x.asks(0, 150);
        x.dispute(0);
        row("disputed", x, 0, 500, 10, 300, 100, 0, 0, 0, 0, 0, 0, 450);
        x.pay(0, 130);
        row("cash waits", x, 0, 500, 10, 200, 0, 30, 0, 0, 0, 0, 0, 320);
        x.pass(8);
        row("at court", x, 1, 100, 5, 140, 140, 0, 3, 8, 8, 0, 1, 140);
        x.pay(1, 80);
        row("the eldest is paid", x, 1, 100, 5, 60, 60, 0, 3, 8, 5, 0, 1, 60);
        for (int none : new int[] {-1, 2, LEAST, MOST}) {
            Check.noSuchDebtor(x, none, 0);
        }
        for (int none : new int[] {-1, 11, LEAST, MOST}) {
            Check.noSuchDebtor(x, 0, none);
        }
        Check.noSuchDebtor(new DunningHouse(), 0, 0);
        DunningHouse stepless = Check.told("hold 1; debtor 1 1; invoice 0 5 0;");
        stepless.pass(50);
        row("no steps, no court", stepless, 0, 1, 1, 5, 5, 0, 0, 0, 50, 0, 0, 5);
    }

    /** Promise 9. */
    private static void invoice() {
        DunningHouse x = Check.told(HOUSE);
        x.pay(1, 30);
        x.pass(3);
        x.dispute(2);
        int[][] due = {{0, 200, 200, 1, 2, 0, 0}, {0, 100, 100, 4, 0, 0, 0}, {1, 80, 50, 0, 3, 1, 0},
            {1, 10, 10, 3, 0, 0, 1}};
        for (int i = 0; i < due.length; i++) {
            for (int what = 0; what < due[i].length; what++) {
                Check.same("invoice(" + i + ", " + what + ")", x.invoice(i, what), due[i][what]);
            }
        }
        for (int none : new int[] {-1, 7, LEAST, MOST}) {
            Check.same("invoice(0, " + none + ")", x.invoice(0, none), -1);
            Check.same("invoice(" + none + ", 0)", x.invoice(none, 0), -1);
        }
        Check.same("invoice(4, 0)", x.invoice(4, 0), -1);
    }

    /** Promise 10. */
    private static void promised() {
        DunningHouse x = Check.told(HOUSE);
        Check.same("promised without one", x.promised(0, 0), -1);
        x.pay(0, 5);
        x.pass(1);
        x.promise(0, 40, 7);
        x.pay(0, 11);
        x.pay(1, 3);
        x.pay(0, 22);
        Check.same("promised(0, 0)", x.promised(0, 0), 40);
        Check.same("promised(0, 1)", x.promised(0, 1), 7);
        Check.same("promised(0, 2)", x.promised(0, 2), 33);
        Check.same("promised(1, 0)", x.promised(1, 0), -1);
        for (int none : new int[] {-1, 3, LEAST, MOST}) {
            Check.same("promised(0, " + none + ")", x.promised(0, none), -1);
            Check.same("promised(" + none + ", 0)", x.promised(none, 0), -1);
        }
        x.pay(0, 400);
        Check.same("all that it pays, CASH too", x.promised(0, 2), 433);
        x.pass(6);
        Check.same("on its day", x.promised(0, 0), 40);
        x.pass(1);
        Check.same("behind its day", x.promised(0, 0), -1);
        Check.same("behind its day", x.promised(0, 2), -1);
    }

    /** Promise 11. */
    private static void planned() {
        DunningHouse x = Check.told(HOUSE);
        Check.same("planned without one", x.planned(0, 0), -1);
        x.pay(0, 9);
        x.pass(1);
        x.plan(0, 4, 3);
        x.pay(0, 80);
        x.pay(1, 7);
        int[] sums = {73, 73, 73, 72};
        for (int k = 0; k < 4; k++) {
            Check.same("instalment " + k, x.planned(0, 10 + k), sums[k]);
            Check.same("its day", x.planned(0, 30 + k), 4 + 3 * k);
        }
        Check.same("planned(0, 0)", x.planned(0, 0), 4);
        Check.same("planned(0, 1)", x.planned(0, 1), 80);
        Check.same("planned(0, 2)", x.planned(0, 2), 4);
        x.pass(3);
        Check.same("the next one is due today", x.planned(0, 2), 4);
        x.pass(1);
        Check.same("the next one is the second", x.planned(0, 2), 7);
        for (int none : new int[] {-1, 3, 9, 14, 29, 34, LEAST, MOST}) {
            Check.same("planned(0, " + none + ")", x.planned(0, none), -1);
        }
        for (int none : new int[] {-1, 1, 2, LEAST, MOST}) {
            Check.same("planned(" + none + ", 0)", x.planned(none, 0), -1);
        }
        DunningHouse y = Check.told("hold 1; debtor 1 1; invoice 0 12 0;");
        y.plan(0, 12, 30);
        Check.same("the twelfth", y.planned(0, 21), 1);
        Check.same("its day", y.planned(0, 41), 360);
        Check.same("no thirteenth", y.planned(0, 22), -1);
        Check.same("no thirteenth day", y.planned(0, 42), -1);
    }

    /** Promise 12. */
    private static void order() {
        DunningHouse x = Check.told(HOUSE);
        x.asks(0, 150);
        x.asks(1, 21);
        x.asks(0, 50);
        x.asks(0, 9);
        x.ships(2);
        x.cancel(3);
        int[][] due = {{0, 150, 1, -1}, {1, 21, 0, -1}, {0, 50, 2, 3}, {0, 9, 3, -1}};
        for (int i = 0; i < due.length; i++) {
            for (int what = 0; what < 4; what++) {
                Check.same("order(" + i + ", " + what + ")", x.order(i, what), due[i][what]);
            }
        }
        for (int none : new int[] {-1, 4, LEAST, MOST}) {
            Check.same("order(0, " + none + ")", x.order(0, none), -1);
            Check.same("order(" + none + ", 0)", x.order(none, 0), -1);
        }
    }

    private static void ages(String name, DunningHouse x, int debtor, int... due) {
        for (int what = 0; what < due.length; what++) {
            Check.same(name + ": aged(" + debtor + ", " + what + ")", x.aged(debtor, what), due[what]);
        }
    }

    /** Promise 13. */
    private static void aged() {
        DunningHouse x = Check.told("hold 1; debtor 1 1; debtor 1 1;"
            + "invoice 0 1 0; invoice 0 20 1; invoice 0 300 30; invoice 0 4000 31; invoice 1 7 60; invoice 0 9 61;");
        ages("at first", x, 0, 4330, 0, 0, 0, 0);
        x.pass(1);
        ages("age 1", x, 0, 4329, 1, 0, 0, 0);
        x.pass(29);
        ages("age 30", x, 0, 4309, 21, 0, 0, 0);
        x.pass(1);
        ages("age 31", x, 0, 4009, 320, 1, 0, 0);
        x.pass(29);
        ages("age 60", x, 0, 9, 4300, 21, 0, 0);
        x.pass(1);
        ages("age 61", x, 0, 9, 4000, 320, 1, 0);
        ages("the other one", x, 1, 0, 7, 0, 0, 0);
        ages("all", x, -1, 9, 4007, 320, 1, 0);
        x.dispute(2);
        x.dispute(4);
        x.pay(0, 11);
        ages("disputed", x, 0, 9, 4000, 10, 0, 300);
        ages("all, disputed", x, -1, 9, 4000, 10, 0, 307);
        for (int none : new int[] {-2, 2, LEAST, MOST}) {
            Check.same("aged(" + none + ", 0)", x.aged(none, 0), NO_SUM);
        }
        for (int none : new int[] {-1, 5, LEAST, MOST}) {
            Check.same("aged(0, " + none + ")", x.aged(0, none), NO_SUM);
            Check.same("aged(-1, " + none + ")", x.aged(-1, none), NO_SUM);
        }
    }

    /** Promise 14. */
    private static void next() {
        DunningHouse x = Check.told(HOUSE);
        Check.same("next(0)", x.next(0), 4);
        Check.same("next(1)", x.next(1), 3);
        for (int none : new int[] {-1, 2, LEAST, MOST}) {
            Check.same("next(" + none + ")", x.next(none), -1);
        }
        x.pass(3);
        Check.same("next(1) behind a step", x.next(1), 2);
        x.pass(5);
        Check.same("next(1) at court", x.next(1), -2);
        DunningHouse far = Check.told("step 99 0 0; hold 1; debtor 0 0; invoice 0 1 99;");
        far.bill(0, 1, 99);
        Check.same("99 days to go and 99 of age", far.next(0), 198);
        DunningHouse y = Check.told("step 1 0 0; step 2 99 0; step 99 99 0; hold 1; debtor 0 0; invoice 0 1 0;");
        y.pass(1);
        Check.same("the gap holds", y.next(0), 99);
        DunningHouse z = Check.told("step 99 0 0; hold 1; debtor 0 0; invoice 0 99 99;");
        z.plan(0, 4, 3);
        Check.same("a plan that breaks on day 3", z.next(0), 198);
        z.undo();
        z.pass(99);
        z.promise(0, 1, 129);
        Check.same("a promise of 30 days more", z.next(0), 130);
        z.undo();
        z.plan(0, 2, 30);
        Check.same("a plan till its first day", z.next(0), 130);
        z.undo();
        z.dispute(0);
        Check.same("disputed", z.next(0), -2);
        Check.same("no steps", Check.told("hold 1; debtor 0 0; invoice 0 1 0;").next(0), -2);
        Check.same("no invoices", Check.told("step 1 1 1; hold 1; debtor 0 0;").next(0), -2);
    }

    /** Promise 14: 200 DAYS at most, and no DAY passes. */
    private static void nextOnPaper() {
        DunningHouse x = Check.told("step 99 0 0; hold 1; debtor 0 0; invoice 0 1 0;");
        x.pay(0, 1);
        x.bill(0, 5, 99);
        Check.same("198", x.next(0), 198);
        DunningHouse y = Check.told("step 1 0 0; step 99 99 0; hold 1; debtor 0 0; invoice 0 1 0; invoice 0 2 99;");
        y.pass(1);
        y.plan(0, 2, 30);
        y.pay(0, 2);
        y.pass(30);
        Check.same("its plan still stands", y.planned(0, 0), 2);
        String before = Check.seen(y);
        // TODAY 31: DAYS till 61 under the plan, whose end leaves an INVOICE of DUE 99: AGE 1 behind DAY 99.
        Check.same("falls back to step 0, which is done again", y.next(0), 69);
        Check.same("on paper", Check.seen(y), before);
        DunningHouse z = Check.told("step 71 0 0; step 72 0 0; hold 1; debtor 0 0; invoice 0 9 0;");
        z.dispute(0);
        z.bill(0, 3, 99);
        z.plan(0, 3, 30);
        z.pay(0, 2);
        // The third INSTALMENT falls on DAY 90 and is missed; DUE is DAY 99, AGE 71 stands behind DAY 169.
        Check.same("170", z.next(0), 170);
        DunningHouse w = Check.told("step 99 0 0; hold 1; debtor 0 0; invoice 0 12 2;");
        w.plan(0, 4, 30);
        w.pay(0, 9);
        // DAY 120 ends the plan; AGE 99 stands at the end of DAY 219.
        Check.same("not in 200", w.next(0), -2);
        w.pass(19);
        Check.same("201 are not in 200", w.next(0), -2);
        w.pass(1);
        Check.same("200 are", w.next(0), 200);
        w.pass(1);
        Check.same("199 are", w.next(0), 199);
    }

    /** Promise 15. */
    private static void would() {
        DunningHouse x = Check.told(HOUSE);
        x.asks(0, 150);
        x.asks(0, 100);
        x.asks(0, 20);
        x.asks(1, 21);
        String before = Check.seen(x);
        Check.same("would(0, 49)", x.would(0, 49), 0);
        Check.same("would(0, 50)", x.would(0, 50), 1);
        Check.same("would(0, 69)", x.would(0, 69), 1);
        Check.same("would(0, 70)", x.would(0, 70), 2);
        Check.same("would(0, 99999)", x.would(0, 99999), 2);
        Check.same("would(1, 1)", x.would(1, 1), 1);
        Check.same("would(0, 0)", x.would(0, 0), -1);
        Check.same("would(0, 100000)", x.would(0, 100000), -1);
        Check.same("would(-1, 5)", x.would(-1, 5), -1);
        Check.same("would(2, 5)", x.would(2, 5), -1);
        Check.same("on paper", Check.seen(x), before);
        x.pass(6);
        Check.same("stage 2 holds all", x.would(1, 99999), 0);
    }

    /** Promise 16. */
    private static void bill() {
        DunningHouse x = Check.told("hold 1; debtor 50 5; debtor 0 0;");
        Check.same("bill", x.bill(0, 9999, 99), 0);
        Check.same("its due", x.invoice(0, 3), 99);
        x.pass(3);
        Check.same("bill", x.bill(1, 1, 0), 1);
        Check.same("its due", x.invoice(1, 3), 3);
        Check.same("its debtor", x.invoice(1, 0), 1);
        Check.same("no fee", x.invoice(1, 6), 0);
        x.pay(1, 8);
        Check.same("cash is placed", x.bill(1, 5, 9), 2);
        Check.same("what is open", x.invoice(2, 2), 0);
        Check.same("its sum", x.invoice(2, 1), 5);
        Check.same("cash", x.debtor(1, 4), 2);
        for (int none : new int[] {-1, 2, LEAST, MOST}) {
            Check.same("bill of " + none, x.bill(none, 5, 5), -1);
        }
        for (int none : new int[] {0, -1, 10000, LEAST, MOST}) {
            Check.same("bill over " + none, x.bill(0, none, 5), -1);
        }
        for (int none : new int[] {-1, 100, LEAST, MOST}) {
            Check.same("bill in " + none, x.bill(0, 5, none), -1);
        }
        for (int i = 3; i < 60; i++) {
            Check.same("bill " + i, x.bill(0, 1, 1), i);
        }
        Check.same("there are 60", x.bill(0, 1, 1), -2);
        Check.same("NONE stands ahead of it", x.bill(0, 0, 1), -1);
        Check.same("invoices", x.now(3), 60);
        DunningHouse y = Check.told("hold 1; debtor 0 0; invoice 0 40 0;");
        y.dispute(0);
        y.pay(0, 30);
        y.asks(0, 1);
        y.cancel(0);
        y.bill(0, 7, 0);
        Check.same("cash is not for disputed ones", y.invoice(0, 2), 40);
    }

    /** Promise 17: cash goes to the earliest DUE, of like ones to the least number. */
    private static void pay() {
        DunningHouse x = Check.told("hold 1; debtor 100 5; debtor 0 0;"
            + "invoice 0 10 5; invoice 0 20 3; invoice 1 40 0; invoice 0 30 3; invoice 0 7 1;");
        x.dispute(4);
        Check.same("pay 25", x.pay(0, 25), 0);
        Check.same("the earliest, of like ones the least", x.invoice(1, 2), 0);
        Check.same("then the next", x.invoice(3, 2), 25);
        Check.same("not yet", x.invoice(0, 2), 10);
        Check.same("not of another", x.invoice(2, 2), 40);
        Check.same("pay 36", x.pay(0, 36), 1);
        Check.same("not a disputed one", x.invoice(4, 2), 7);
        Check.same("paid in all", x.now(8), 61);
        Check.same("pay 99999", x.pay(0, 99999), 100000);
        Check.same("pay 1", x.pay(1, 1), 0);
        for (int none : new int[] {0, -1, 100000, LEAST, MOST}) {
            Check.same("pay of " + none, x.pay(0, none), -1);
        }
        for (int none : new int[] {-1, 2, LEAST, MOST}) {
            Check.same("pay by " + none, x.pay(none, 5), -1);
        }
        DunningHouse y = Check.told("hold 1; debtor 100 5; invoice 0 90 5;");
        y.asks(0, 20);
        y.asks(0, 50);
        y.asks(0, 1);
        y.pay(0, 9);
        Check.same("too little", y.order(0, 2), 0);
        y.pay(0, 1);
        Check.same("just enough", y.order(0, 2), 1);
        Check.same("the next does not fit", y.order(1, 2), 0);
        y.pay(0, 20);
        Check.same("none goes by the first that waits", y.order(2, 2), 0);
        y.pay(0, 100);
        Check.same("cash lets the second go", y.order(1, 2), 1);
        Check.same("and the third", y.order(2, 2), 1);
        Check.same("risk", y.debtor(0, 10), 90 - 130 + 71);
    }

    /** Promise 18. */
    private static void dispute() {
        DunningHouse x = Check.told(HOUSE);
        Check.same("dispute(0)", x.dispute(0), true);
        Check.same("it is disputed", x.invoice(0, 5), 1);
        Check.same("once more", x.dispute(0), false);
        for (int none : new int[] {-1, 3, LEAST, MOST}) {
            Check.same("dispute(" + none + ")", x.dispute(none), false);
        }
        x.pay(0, 100);
        Check.same("paid", x.dispute(1), false);
        x.plan(1, 2, 1);
        Check.same("in a plan", x.dispute(2), false);
        x.undo();
        x.promise(1, 5, 5);
        Check.same("in a promise", x.dispute(2), true);
        x.pass(9);
        Check.same("its clock stands", x.invoice(0, 4), 0);
        Check.same("no step for it", x.debtor(0, 5), 0);
    }

    /** Promise 19. */
    private static void settle() {
        DunningHouse x = Check.told("hold 1; debtor 200 5; invoice 0 150 5; invoice 0 40 3;");
        Check.same("not disputed", x.settle(0, 0), -1);
        x.dispute(0);
        x.asks(0, 30);
        Check.same("waits", x.order(0, 2), 0);
        Check.same("off -1", x.settle(0, -1), -1);
        Check.same("off 151", x.settle(0, 151), -1);
        Check.same("off LEAST", x.settle(0, LEAST), -1);
        Check.same("off MOST", x.settle(0, MOST), -1);
        for (int none : new int[] {-1, 2, LEAST, MOST}) {
            Check.same("settle(" + none + ", 0)", x.settle(none, 0), -1);
        }
        Check.same("all of it", x.settle(0, 150), 0);
        Check.same("no more disputed", x.invoice(0, 5), 0);
        Check.same("released", x.order(0, 2), 1);
        Check.same("closed", x.dispute(0), false);
        Check.same("its sum stays", x.invoice(0, 1), 150);
        x.undo();
        x.pay(0, 60);
        Check.same("cash waits", x.debtor(0, 4), 20);
        Check.same("10 off and 20 paid", x.settle(0, 10), 120);
        Check.same("no cash", x.debtor(0, 4), 0);
        x.undo();
        Check.same("nothing off", x.settle(0, 0), 130);
        DunningHouse y = Check.told("hold 1; debtor 0 0; invoice 0 50 9; invoice 0 60 2;");
        y.dispute(0);
        y.dispute(1);
        y.pay(0, 55);
        Check.same("settle the one", y.settle(0, 0), 0);
        Check.same("settle the other", y.settle(1, 1), 54);
    }

    /** Promise 20. */
    private static void promise() {
        DunningHouse x = Check.told(HOUSE);
        x.dispute(1);
        for (int none : new int[] {-1, 2, LEAST, MOST}) {
            Check.same("promise of " + none, x.promise(none, 1, 0), -1);
        }
        for (int none : new int[] {0, -1, 201, LEAST, MOST}) {
            Check.same("promise over " + none, x.promise(0, none, 0), -1);
        }
        for (int none : new int[] {-1, 31, LEAST, MOST}) {
            Check.same("promise by " + none, x.promise(0, 1, none), -1);
        }
        Check.same("promise", x.promise(0, 200, 30), 0);
        Check.same("has one", x.promise(0, 1, 0), -2);
        Check.same("NONE stands ahead of it", x.promise(0, 0, 0), -1);
        x.plan(1, 2, 1);
        Check.same("has a plan", x.promise(1, 1, 0), -2);

        DunningHouse y = Check.told("step 9 0 0; hold 1; debtor 0 0; invoice 0 200 0;");
        y.promise(0, 50, 2);
        y.pay(0, 49);
        y.pass(2);
        Check.same("not yet over", y.debtor(0, 8), 0);
        y.pass(1);
        Check.same("broken by one", y.debtor(0, 8), 1);
        y.promise(0, 50, 3);
        y.pay(0, 50);
        y.pass(1);
        Check.same("kept", y.debtor(0, 8), 1);
        Check.same("its clock stood", y.invoice(0, 4), 0);
        y.promise(0, 1, 4);
        y.pass(1);
        Check.same("broken twice", y.promise(0, 1, 5), -3);
        y.pass(20);
        Check.same("-3 stands ahead of -4", y.promise(0, 1, 30), -3);
        Check.same("at court", y.debtor(0, 9), 1);
        DunningHouse z = Check.told("step 1 0 0; hold 1; debtor 0 0; invoice 0 200 0;");
        z.pass(1);
        Check.same("at court", z.promise(0, 1, 5), -4);
        DunningHouse w = Check.told("step 1 0 0; hold 1; debtor 0 0; invoice 0 200 0;");
        w.promise(0, 5, 0);
        w.pass(1);
        Check.same("no age on its day", w.debtor(0, 7), 0);
        w.pass(1);
        Check.same("age behind it", w.debtor(0, 7), 1);
    }

    /** Promise 21. */
    private static void plan() {
        DunningHouse x = Check.told("step 2 0 0; hold 1; debtor 0 0; debtor 0 0; invoice 0 11 0; invoice 1 50 0;");
        for (int none : new int[] {-1, 2, LEAST, MOST}) {
            Check.same("plan of " + none, x.plan(none, 2, 1), -1);
        }
        for (int none : new int[] {1, 13, 0, LEAST, MOST}) {
            Check.same("plan by " + none, x.plan(0, none, 1), -1);
        }
        for (int none : new int[] {0, 31, -1, LEAST, MOST}) {
            Check.same("plan each " + none, x.plan(0, 2, none), -1);
        }
        Check.same("debt below n", x.plan(0, 12, 1), -3);
        Check.same("debt is n", x.plan(0, 11, 30), 0);
        Check.same("has one", x.plan(0, 2, 1), -2);
        Check.same("-2 stands ahead of -3", x.plan(0, 12, 1), -2);
        Check.same("NONE stands ahead of -2", x.plan(0, 13, 1), -1);
        x.promise(1, 10, 9);
        x.pay(1, 5);
        Check.same("plan ends a promise", x.plan(1, 2, 1), 0);
        Check.same("no promise", x.promised(1, 0), -1);
        Check.same("paid since the plan", x.planned(1, 1), 0);
        Check.same("23 and 22", x.planned(1, 10), 23);
        Check.same("23 and 22", x.planned(1, 11), 22);
        x.pass(20);
        Check.same("not broken", x.debtor(1, 8), 0);
        Check.same("at court", x.plan(1, 2, 1), -4);
        x.pay(1, 45);
        Check.same("-3 stands ahead of -4", x.plan(1, 2, 1), -3);
        DunningHouse y = Check.told("hold 1; debtor 0 0; invoice 0 11 0; invoice 0 12 0;");
        y.dispute(0);
        y.plan(0, 5, 1);
        int[] sums = {3, 3, 2, 2, 2};
        for (int k = 0; k < 5; k++) {
            Check.same("not of disputed ones: " + k, y.planned(0, 10 + k), sums[k]);
        }
    }

    /** Promise 21: how a PLAN ends. */
    private static void planEnds() {
        DunningHouse x = Check.told("step 1 0 0; hold 1; debtor 0 0; invoice 0 100 0;");
        x.plan(0, 3, 2);
        x.pay(0, 33);
        x.pass(2);
        Check.same("stands on its day", x.planned(0, 0), 3);
        Check.same("its clock stood", x.debtor(0, 7), 0);
        x.pass(1);
        Check.same("broken by one", x.planned(0, 0), -1);
        Check.same("no step on that day", x.debtor(0, 5), 0);
        x.undo();
        x.pay(0, 1);
        x.pass(2);
        Check.same("first kept", x.planned(0, 0), 3);
        x.pay(0, 33);
        x.pass(1);
        Check.same("second kept", x.planned(0, 0), 3);
        x.pay(0, 32);
        x.pass(1);
        Check.same("on the last day", x.planned(0, 0), 3);
        String before = Check.seen(x);
        x.pass(1);
        Check.same("the last is missed", x.planned(0, 0), -1);
        x.undo();
        Check.same("undone", Check.seen(x), before);
        x.pay(0, 1);
        Check.same("it stands till the day ends", x.planned(0, 0), 3);
        x.pass(1);
        Check.same("kept", x.planned(0, 0), -1);
        Check.same("no age", x.invoice(0, 4), 0);
        DunningHouse y = Check.told("hold 1; debtor 0 0; invoice 0 100 0; invoice 0 5 50;");
        y.dispute(1);
        y.plan(0, 2, 10);
        y.pay(0, 100);
        y.pass(1);
        Check.same("debt is 0, though a disputed one is open", y.planned(0, 0), -1);
        DunningHouse z = Check.told("hold 1; debtor 0 0; invoice 0 10 0;");
        z.plan(0, 2, 1);
        z.bill(0, 30, 0);
        z.pay(0, 10);
        z.pass(2);
        Check.same("paid all, yet debt", z.planned(0, 0), 2);
        z.pass(1);
        Check.same("kept at the last", z.planned(0, 0), -1);
        Check.same("its debt", z.debtor(0, 3), 30);
    }

    /** Promise 22. */
    private static void asks() {
        DunningHouse x = Check.told("step 1 0 0; hold 1; debtor 100 5; debtor 9999 0; invoice 0 40 99;");
        Check.same("asks", x.asks(0, 60), 0);
        Check.same("at the limit", x.order(0, 2), 1);
        Check.same("asks", x.asks(0, 1), 1);
        Check.same("above the limit", x.order(1, 2), 0);
        Check.same("of another", x.asks(1, 9999), 2);
        Check.same("released", x.order(2, 2), 1);
        for (int none : new int[] {-1, 2, LEAST, MOST}) {
            Check.same("asks of " + none, x.asks(none, 5), -1);
        }
        for (int none : new int[] {0, -1, 10000, LEAST, MOST}) {
            Check.same("asks for " + none, x.asks(0, none), -1);
        }
        for (int i = 3; i < 40; i++) {
            Check.same("asks " + i, x.asks(0, 1), i);
        }
        Check.same("there are 40", x.asks(0, 1), -2);
        Check.same("NONE stands ahead of it", x.asks(0, 0), -1);
        Check.same("orders", x.now(4), 40);
        DunningHouse y = Check.told("step 1 0 0; step 2 0 0; hold 2; debtor 900 0; invoice 0 4 0;");
        y.pass(1);
        y.asks(0, 5);
        Check.same("stage 1 is below 2", y.order(0, 2), 1);
        y.pass(1);
        y.asks(0, 5);
        Check.same("stage 2 is not", y.order(1, 2), 0);
    }

    /** Promise 23. */
    private static void ships() {
        DunningHouse x = Check.told("hold 1; debtor 100 7; debtor 0 0;");
        x.asks(0, 60);
        x.asks(0, 41);
        x.pass(2);
        Check.same("ships", x.ships(0), 0);
        int[] due = {0, 60, 60, 9, 0, 0, 0};
        for (int what = 0; what < due.length; what++) {
            Check.same("its invoice " + what, x.invoice(0, what), due[what]);
        }
        Check.same("billed", x.order(0, 2), 2);
        Check.same("by", x.order(0, 3), 0);
        Check.same("risk", x.debtor(0, 10), 60);
        Check.same("billed once", x.ships(0), -1);
        Check.same("it waits", x.ships(1), -1);
        for (int none : new int[] {-1, 2, LEAST, MOST}) {
            Check.same("ships(" + none + ")", x.ships(none), -1);
        }
        x.pay(0, 70);
        Check.same("released by a payment", x.order(1, 2), 1);
        Check.same("ships", x.ships(1), 1);
        Check.same("cash is placed", x.invoice(1, 2), 31);
        Check.same("no cash", x.debtor(0, 4), 0);
        x.asks(0, 1);
        x.cancel(2);
        Check.same("cancelled", x.ships(2), -1);
        x.asks(0, 1);
        for (int i = 2; i < 60; i++) {
            x.bill(1, 1, 1);
        }
        Check.same("there are 60", x.ships(3), -2);
        Check.same("NONE stands ahead of it", x.ships(2), -1);
        Check.same("still released", x.order(3, 2), 1);
    }

    /** Promise 24. */
    private static void cancel() {
        DunningHouse x = Check.told("hold 1; debtor 100 7; debtor 100 7;");
        x.asks(0, 60);
        x.asks(0, 50);
        x.asks(0, 40);
        x.asks(1, 101);
        Check.same("cancel one that waits", x.cancel(1), true);
        Check.same("cancelled", x.order(1, 2), 3);
        Check.same("the one behind it goes", x.order(2, 2), 1);
        x.undo();
        Check.same("it waits again", x.order(1, 2), 0);
        Check.same("cancel a released one", x.cancel(0), true);
        Check.same("the next goes", x.order(1, 2), 1);
        Check.same("and the one behind it", x.order(2, 2), 1);
        Check.same("not another's", x.order(3, 2), 0);
        Check.same("once more", x.cancel(0), false);
        x.ships(1);
        Check.same("billed", x.cancel(1), false);
        for (int none : new int[] {-1, 4, LEAST, MOST}) {
            Check.same("cancel(" + none + ")", x.cancel(none), false);
        }
    }

    /** Promise 25. */
    private static void pass() {
        DunningHouse x = new DunningHouse();
        for (int none : new int[] {0, -1, 100, LEAST, MOST}) {
            Check.same("pass(" + none + ")", x.pass(none), -1);
        }
        for (int i = 1; i <= 10; i++) {
            Check.same("pass(99)", x.pass(99), 99 * i);
        }
        Check.same("to 1000", x.pass(10), -1);
        Check.same("today", x.now(0), 990);
        Check.same("to 999", x.pass(9), 999);
        Check.same("no more", x.pass(1), -1);
    }

    /** Promise 25, (1). */
    private static void dayAges() {
        DunningHouse x = Check.told("hold 1; debtor 0 0; invoice 0 5 2; invoice 0 6 0; invoice 0 7 0;");
        x.dispute(2);
        x.pay(0, 6);
        x.pass(2);
        Check.same("not yet due", x.invoice(0, 4), 0);
        Check.same("paid", x.invoice(1, 4), 0);
        Check.same("disputed", x.invoice(2, 4), 0);
        x.pass(1);
        Check.same("on the day it is due", x.invoice(0, 4), 1);
        x.promise(0, 1, 4);
        x.pass(2);
        Check.same("promised", x.invoice(0, 4), 1);
        x.plan(0, 2, 1);
        x.pass(1);
        Check.same("planned", x.invoice(0, 4), 1);
        x.pass(1);
        Check.same("planned on the day of the breach", x.invoice(0, 4), 1);
        x.settle(2, 0);
        x.pass(2);
        Check.same("ages again", x.invoice(0, 4), 3);
        Check.same("settled", x.invoice(2, 4), 2);
        x.pay(0, 7);
        Check.same("what is paid keeps its age", x.invoice(2, 4), 2);
        Check.same("what is open counts", x.debtor(0, 7), 3);
    }

    /** Promise 25, (4): one STEP a DAY, from its AGE on and its GAP behind the latest. */
    private static void daySteps() {
        DunningHouse x = Check.told("step 2 9 0; step 1 0 0; step 3 3 0; hold 1; debtor 0 0; debtor 0 0;"
            + "invoice 0 5 0; invoice 1 5 1;");
        int[][] due = {{0, 0}, {1, 0}, {2, 1}, {2, 2}, {2, 2}, {3, 2}, {3, 3}, {3, 3}};
        int[] days = {0, 2, 3, 3, 3, 6, 6, 6};
        for (int day = 0; day < due.length; day++) {
            x.pass(1);
            Check.same("stage of 0 on " + (day + 1), x.debtor(0, 5), due[day][0]);
            Check.same("stage of 1 on " + (day + 1), x.debtor(1, 5), due[day][1]);
            Check.same("its day on " + (day + 1), x.debtor(0, 6), days[day]);
        }
        DunningHouse y = Check.told("step 2 0 0; hold 1; debtor 0 0; invoice 0 5 0;");
        y.pass(1);
        y.promise(0, 1, 2);
        y.pass(1);
        Check.same("promised", y.debtor(0, 5), 0);
        y.pass(1);
        Check.same("on the promise's day no clock ran", y.debtor(0, 5), 0);
        y.pass(1);
        Check.same("then it does", y.debtor(0, 5), 1);
        DunningHouse z = Check.told("step 1 0 0; step 1 0 0; hold 1; debtor 0 0; invoice 0 5 0;");
        z.pass(1);
        z.promise(0, 1, 1);
        z.pass(1);
        Check.same("a promise that is over holds no step", z.debtor(0, 5), 2);
    }

    /** Promise 25, (4): FEES. */
    private static void dayFees() {
        DunningHouse x = Check.told("step 1 0 7; step 2 0 0; step 3 0 9; hold 1; debtor 0 0; debtor 0 0;"
            + "invoice 1 5 0; invoice 0 5 0;");
        x.pass(1);
        int[] first = {0, 7, 7, 1, 0, 0, 1};
        for (int what = 0; what < first.length; what++) {
            Check.same("fee " + what, x.invoice(2, what), first[what]);
        }
        Check.same("debtor by debtor", x.invoice(3, 0), 1);
        x.pass(1);
        Check.same("no fee, no invoice", x.now(3), 4);
        Check.same("a fee ages", x.invoice(2, 4), 1);
        x.pass(1);
        Check.same("the third", x.invoice(4, 1), 9);
        Check.same("owed", x.debtor(0, 2), 21);
        DunningHouse least = Check.told("step 1 0 1; hold 1; debtor 0 0; invoice 0 5 0;");
        least.pass(1);
        Check.same("the least fee", least.invoice(1, 1), 1);
        DunningHouse y = Check.told("step 1 0 7; hold 1; debtor 0 0; debtor 0 0; invoice 0 5 0; invoice 1 5 0;");
        for (int i = 2; i < 59; i++) {
            y.bill(0, 1, 99);
        }
        y.pass(1);
        Check.same("60 at most", y.now(3), 60);
        Check.same("the last one's debtor", y.invoice(59, 0), 0);
        Check.same("its step is done without a fee", y.debtor(1, 5), 1);
        Check.same("owed", y.debtor(1, 2), 5);
    }

    /** Promise 25, (4): STAGE is 0 again, but at COURT. */
    private static void dayStageFallsBack() {
        DunningHouse x = Check.told("step 1 0 0; step 2 0 0; step 30 0 0; hold 1; debtor 0 0; invoice 0 5 0;");
        x.pass(2);
        x.pay(0, 5);
        Check.same("till the day ends", x.debtor(0, 5), 2);
        x.pass(1);
        Check.same("back at 0", x.debtor(0, 5), 0);
        Check.same("the day of the latest stays", x.debtor(0, 6), 2);
        x.bill(0, 5, 0);
        x.pass(1);
        Check.same("step 0 anew", x.debtor(0, 5), 1);
        x.dispute(1);
        x.pass(1);
        Check.same("disputed", x.debtor(0, 5), 0);
        x.settle(1, 0);
        x.promise(0, 5, 5);
        x.pass(1);
        Check.same("an old age counts again behind the promise", x.debtor(0, 5), 1);
        DunningHouse z = Check.told("step 1 0 0; step 9 0 0; hold 1; debtor 0 0; invoice 0 5 0; invoice 0 6 50;");
        z.pass(1);
        z.plan(0, 2, 9);
        z.pay(0, 5);
        z.pass(1);
        Check.same("in a plan it falls back too", z.debtor(0, 5), 0);
        Check.same("the plan stands", z.planned(0, 0), 2);
        DunningHouse y = Check.told("step 1 0 0; hold 1; debtor 0 0; invoice 0 5 0;");
        y.pass(1);
        y.pay(0, 5);
        y.pass(9);
        Check.same("at court for good", y.debtor(0, 5), 1);
        Check.same("at court for good", y.debtor(0, 9), 1);
    }

    /** Promise 25, (5). */
    private static void dayReleases() {
        DunningHouse x = Check.told("step 1 0 0; step 9 0 0; hold 1; debtor 100 0; debtor 100 0;"
            + "invoice 0 5 0; invoice 1 5 0;");
        x.pass(1);
        x.asks(0, 10);
        x.asks(1, 10);
        x.asks(0, 86);
        x.pay(0, 5);
        Check.same("stage 1 holds it", x.order(0, 2), 0);
        x.pass(1);
        Check.same("stage 0 releases it", x.order(0, 2), 1);
        Check.same("and the next", x.order(2, 2), 1);
        Check.same("not the other's", x.order(1, 2), 0);
        x.pay(1, 5);
        x.undo();
        x.dispute(1);
        x.pass(1);
        Check.same("the other's", x.order(1, 2), 1);
    }

    /** Promise 26: each act, undone. */
    private static void undo() {
        DunningHouse x = Check.told(HOUSE);
        Check.same("nothing yet", x.undo(), -1);
        x.asks(0, 150);
        x.asks(0, 100);
        x.dispute(1);
        for (int act = 0; act < 10; act++) {
            int kept = x.now(9);
            String before = Check.seen(x);
            Check.same("act " + act + " is done", act(x, act), true);
            Check.same("act " + act + " is kept", x.now(9), kept + 1);
            Check.same("undo of act " + act, x.undo(), kept);
            Check.same("act " + act, Check.seen(x), before);
        }
        Check.same("the third", x.undo(), 2);
        Check.same("no more disputed", x.invoice(1, 5), 0);
        Check.same("the second", x.undo(), 1);
        Check.same("orders", x.now(4), 1);
        Check.same("the first", x.undo(), 0);
        Check.same("orders", x.now(4), 0);
        Check.same("none", x.undo(), -1);
        x.pay(0, 5);
        x.feed(0, 0, 0, 0, 0);
        Check.same("a feed is no act", x.undo(), 0);
        Check.same("the tape stays", x.now(10), 20);
    }

    private static boolean act(DunningHouse x, int act) {
        switch (act) {
            case 0: return x.bill(0, 5, 5) >= 0;
            case 1: return x.pay(0, 305) >= 0;
            case 2: return x.dispute(0);
            case 3: return x.settle(1, 50) >= 0;
            case 4: return x.promise(0, 5, 5) == 0;
            case 5: return x.plan(0, 5, 5) == 0;
            case 6: return x.asks(1, 5) >= 0;
            case 7: return x.ships(0) >= 0;
            case 8: return x.cancel(0);
            default: return x.pass(30) >= 0;
        }
    }

    /** Promise 26: ten are kept. */
    private static void undoKeepsTen() {
        DunningHouse x = Check.told("hold 1; debtor 1 1;");
        for (int i = 1; i <= 25; i++) {
            x.pay(0, i);
            Check.same("kept", x.now(9), Math.min(i, 10));
        }
        int paid = 325;
        for (int i = 25; i > 15; i--) {
            Check.same("undo", x.undo(), i - 16);
            paid -= i;
            Check.same("paid", x.now(8), paid);
        }
        Check.same("no eleventh", x.undo(), -1);
        Check.same("paid", x.now(8), paid);
        x.pay(0, 1);
        Check.same("undo", x.undo(), 0);
    }

    /** A refused call, one that throws changes nothing, and is not kept for undo(). */
    private static void refusedChangesNothing() {
        DunningHouse x = Check.told(HOUSE);
        x.asks(1, 50);
        x.pass(8);
        x.promise(0, 5, 9);
        x.dispute(3);
        String before = Check.seen(x);
        x.end(5);
        x.bill(0, 0, 0);
        x.bill(0, 1, -1);
        x.pay(0, 0);
        x.pay(7, 1);
        x.dispute(3);
        x.dispute(9);
        x.settle(0, 0);
        x.settle(3, 999);
        x.promise(0, 1, 9);
        x.promise(1, 1, 9);
        x.plan(1, 2, 1);
        x.plan(0, 1, 1);
        x.asks(0, 0);
        x.ships(0);
        x.ships(-1);
        x.cancel(9);
        x.pass(0);
        x.pass(100);
        Check.noSuchDebtor(x, 5, 0);
        Check.noSuchDebtor(x, 0, 11);
        Check.same("refused calls", Check.seen(x), before);
    }
}
