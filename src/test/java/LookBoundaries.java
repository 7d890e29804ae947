/** Promises 6 to 15 at their boundaries: what is looked at, and what is asked on paper. */
final class LookBoundaries {
    private static final int NO_SUM = -100000000;

    private LookBoundaries() {
    }

    /** All that the document bounds is full: STEPS, DEBTORS, INVOICES, ORDERS, what can be undone. */
    private static Story full() {
        Story x = Story.told("step 99 99 999;".repeat(6) + "hold 9;" + "debtor 9999 99;".repeat(6)
            + "invoice 5 9999 99;".repeat(12));
        for (int i = 12; i < 60; i++) {
            x.due("bill(" + i % 6 + ", 9999, 99)", i);
        }
        for (int i = 0; i < 40; i++) {
            x.due("asks(" + i % 6 + ", 9999)", i);
        }
        return x;
    }

    private static Story small() {
        return Story.told("step 2 1 3; step 5 4 6; hold 1; debtor 70 8; debtor 90 9; invoice 0 50 1; invoice 1 60 0;");
    }

    /** "NONE for another what." */
    static void promise06AnotherWhat() {
        small().looks("now(0)", 0).looks("now(10)", 0).refusedWith("now(?)", -1, "-1", "11", "12", "-10", "MIN", "MAX");
        Story.fresh().refusedWith("now(?)", -1, "-1", "11", "MIN", "MAX");
    }

    /** Each of them from nothing to as much as the document lets be. */
    static void promise06FromNothingToFull() {
        Story x = full().looks("now(1)", 6).looks("now(2)", 6).looks("now(3)", 60).looks("now(4)", 40);
        // 8 bills of 9999 a DEBTOR, and 12 of the text.
        x.looks("now(5)", 40).looks("now(6)", 60 * 9999).looks("now(7)", 0).looks("now(8)", 0).looks("now(9)", 10);
        for (int i = 0; i < 10; i++) {
            x.due("pass(99)", 99 * i + 99);
        }
        x.due("pass(9)", 999).looks("now(0)", 999);
        for (int i = 1; i <= 32; i++) {
            x.due("feed(0, 0, 0, 0, 0)", 20 * i);
        }
        x.looks("now(10)", 640);
    }

    /** "7 their CASH, 8 paid in all": sums far above what one payment can be. */
    static void promise06GreatSums() {
        Story x = Story.told("hold 1;debtor 0 0;debtor 0 0;invoice 0 1 0;");
        for (int i = 1; i <= 60; i++) {
            x.due("pay(0, 99999)", 99999 * i - 1).due("pay(1, 99999)", 99999 * i);
        }
        x.looks("now(6)", 0).looks("now(7)", 120 * 99999 - 1).looks("now(8)", 120 * 99999);
        x.looks("debtor(1, 10)", -60 * 99999);
    }

    /** "NONE: no such one, another what." */
    static void promise07NoSuchStepOrWhat() {
        Story.told("hold 1;").refusedWith("step(?, 0)", -1, "0", "-1", "1", "MIN", "MAX");
        Story x = small().looks("step(0, 0)", 2).looks("step(0, 2)", 3).looks("step(1, 0)", 5).looks("step(1, 2)", 6);
        x.refusedWith("step(?, 0)", -1, "-1", "2", "MIN", "MAX").refusedWith("step(?, 2)", -1, "-1", "2", "6");
        x.refusedWith("step(0, ?)", -1, "-1", "3", "4", "MIN", "MAX").refusedWith("step(1, ?)", -1, "-1", "3", "-3");
        full().looks("step(5, 0)", 99).looks("step(5, 1)", 99).looks("step(5, 2)", 999).refused("step(6, 0)", -1);
    }

    /** "NoSuchElementException: no such one, another what." */
    static void promise08NoSuchDebtorOrWhat() {
        Story.told("hold 1;").refusedWith("debtor(?, 0)", Call.NO_SUCH, "0", "-1", "1", "MIN", "MAX");
        Story x = small().does("pass(1) pay(0, 9)").looks("debtor(0, 0)", 70).looks("debtor(1, 10)", 60);
        x.refusedWith("debtor(?, 0)", Call.NO_SUCH, "-1", "2", "6", "MIN", "MAX");
        x.refusedWith("debtor(?, 10)", Call.NO_SUCH, "-1", "2", "MIN", "MAX");
        x.refusedWith("debtor(0, ?)", Call.NO_SUCH, "-1", "11", "12", "13", "MIN", "MAX");
        x.refusedWith("debtor(1, ?)", Call.NO_SUCH, "-1", "11", "-13", "MIN", "MAX")
            .refused("debtor(2, 11)", Call.NO_SUCH);
        full().looks("debtor(5, 1)", 99).refused("debtor(6, 1)", Call.NO_SUCH);
    }

    /** "CASH that waits (0), a STAGE (.. 0), the DAY of the latest of them (0), .. BROKEN promises (0)": at first. */
    static void promise08AtFirst() {
        Story x = small();
        int[] due = {90, 9, 60, 60, 0, 0, 0, 0, 0, 0, 60};
        for (int what = 0; what < due.length; what++) {
            x.looks("debtor(1, " + what + ")", due[what]);
        }
        int[] invoice = {1, 60, 60, 0, 0, 0, 0};
        for (int what = 0; what < invoice.length; what++) {
            x.looks("invoice(1, " + what + ")", invoice[what]);
        }
        x.refused("promised(1, 0)", -1).refused("planned(1, 0)", -1);
    }

    /** "the greatest AGE of INVOICES that are OPEN and not DISPUTED (0)": without one it is 0. */
    static void promise08NoAgeIs0() {
        Story.told("hold 1;debtor 0 0;").looks("debtor(0, 7)", 0);
        Story x = Story.told("hold 1;debtor 0 0;invoice 0 5 0;invoice 0 6 1;").looks("debtor(0, 7)", 0);
        x.does("pass(1)").looks("debtor(0, 7)", 1).does("pass(2)").looks("debtor(0, 7)", 3);
        x.does("pay(0, 5)").looks("debtor(0, 7)", 2).does("pay(0, 5)").looks("debtor(0, 7)", 2);
        x.does("dispute(1)").looks("debtor(0, 7)", 0).does("undo() pay(0, 1)").looks("debtor(0, 7)", 0);
    }

    /** "9 1 if at COURT": "who has had all STEPS (one at least)". */
    static void promise08AtCourt() {
        Story none = Story.told("hold 1;debtor 0 0;invoice 0 5 0;").does("pass(50)").looks("debtor(0, 9)", 0);
        none.looks("debtor(0, 5)", 0);
        Story one = Story.told("step 2 0 0;hold 1;debtor 0 0;invoice 0 5 0;").does("pass(1)").looks("debtor(0, 9)", 0);
        one.does("pass(1)").looks("debtor(0, 9)", 1).looks("debtor(0, 5)", 1);
        Story six = Story.told("step 1 0 0;".repeat(6) + "hold 1;debtor 0 0;invoice 0 5 0;").does("pass(5)");
        six.looks("debtor(0, 9)", 0).looks("debtor(0, 5)", 5).does("pass(1)").looks("debtor(0, 9)", 1);
        six.does("pass(1)").looks("debtor(0, 5)", 6).looks("debtor(0, 9)", 1);
    }

    /** "10 RISK": "what it OWES, less CASH, and all its RELEASED ORDERS"; it can be below 0. */
    static void promise08RiskBelow0() {
        Story x = Story.told("hold 1;debtor 50 0;debtor 9 0;invoice 0 10 0;").looks("debtor(0, 10)", 10);
        x.does("pay(0, 10)").looks("debtor(0, 10)", 0).does("pay(0, 1)").looks("debtor(0, 10)", -1);
        x.does("asks(0, 51)").looks("debtor(0, 10)", 50).does("asks(0, 1)").looks("debtor(0, 10)", 50);
        x.does("cancel(0)").looks("debtor(0, 10)", 0).does("cancel(1)").looks("debtor(0, 10)", -1);
        x.looks("debtor(1, 10)", 0);
    }

    /** "NONE: no such one, another what." */
    static void promise09NoSuchInvoiceOrWhat() {
        Story.told("hold 1;debtor 1 1;").refusedWith("invoice(?, 0)", -1, "0", "-1", "1", "MIN", "MAX");
        Story x = small().looks("invoice(0, 0)", 0).looks("invoice(1, 6)", 0).looks("invoice(1, 3)", 0);
        x.refusedWith("invoice(?, 0)", -1, "-1", "2", "60", "MIN", "MAX").refusedWith("invoice(?, 6)", -1, "-1", "2");
        x.refusedWith("invoice(0, ?)", -1, "-1", "7", "8", "MIN", "MAX")
            .refusedWith("invoice(1, ?)", -1, "-1", "7", "-7");
        full().looks("invoice(59, 0)", 5).looks("invoice(59, 1)", 9999).looks("invoice(59, 3)", 99)
            .refusedWith("invoice(?, 1)", -1, "60", "-1");
    }

    /** "NONE: no such one, it has none, another what." */
    static void promise10NoneOrNoSuchPromise() {
        Story x = small().does("pass(1)").refusedWith("promised(?, 0)", -1, "0", "1", "-1", "2", "MIN", "MAX");
        x.does("promise(0, 50, 4)").looks("promised(0, 0)", 50).looks("promised(0, 1)", 4).looks("promised(0, 2)", 0);
        x.refusedWith("promised(0, ?)", -1, "-1", "3", "4", "MIN", "MAX");
        x.refusedWith("promised(?, 0)", -1, "-1", "1", "2", "MIN", "MAX").refusedWith("promised(1, ?)", -1, "1", "2");
        // It stands on its DAY and is none when that DAY has ENDED.
        x.does("pass(3)").looks("promised(0, 0)", 50).does("pass(1)").refusedWith("promised(0, ?)", -1, "0", "1", "2");
        x.does("plan(0, 2, 5)").refusedWith("promised(0, ?)", -1, "0", "1", "2");
    }

    /** "2 what was paid since": nothing of what was paid ahead of it, all of what is paid behind it. */
    static void promise10PaidSince() {
        Story x = small().does("pay(0, 5) promise(0, 45, 3)").looks("promised(0, 2)", 0).does("pay(1, 7)");
        x.looks("promised(0, 2)", 0).does("pay(0, 1)").looks("promised(0, 2)", 1).does("pay(0, 99999)");
        x.looks("promised(0, 2)", 100000).does("undo()").looks("promised(0, 2)", 1);
        // A PROMISE behind another begins at 0.
        x.does("pass(4) promise(0, 5, 9)").looks("promised(0, 2)", 0);
    }

    /** "NONE: no such one, it has none, another what." */
    static void promise11NoneOrNoSuchPlan() {
        Story x = small().refusedWith("planned(?, 0)", -1, "0", "1", "-1", "2", "MIN", "MAX").does("promise(0, 1, 0)");
        x.refusedWith("planned(0, ?)", -1, "0", "1", "2", "10", "30").does("plan(0, 2, 30)");
        x.looks("planned(0, 0)", 2).looks("planned(0, 1)", 0).looks("planned(0, 2)", 30);
        x.refusedWith("planned(?, 0)", -1, "-1", "1", "2", "MIN", "MAX");
        x.refusedWith("planned(0, ?)", -1, "-1", "3", "9", "-10", "MIN", "MAX");
    }

    /** "10 and k: the k-th INSTALMENT, 30 and k: its DAY": of 2. */
    static void promise11OfTwoInstalments() {
        Story x = small().does("pass(1) plan(0, 2, 30)").looks("planned(0, 10)", 25).looks("planned(0, 11)", 25);
        x.looks("planned(0, 30)", 31).looks("planned(0, 31)", 61);
        x.refusedWith("planned(0, ?)", -1, "9", "12", "13", "21", "22", "29", "32", "33", "41", "42");
    }

    /** The same of 12, the most that can be. */
    static void promise11OfTwelveInstalments() {
        Story x = small().does("pass(1) plan(1, 12, 1)");
        for (int k = 0; k < 12; k++) {
            x.looks("planned(1, " + (10 + k) + ")", 5).looks("planned(1, " + (30 + k) + ")", 2 + k);
        }
        x.refusedWith("planned(1, ?)", -1, "9", "22", "23", "29", "42", "43", "MIN", "MAX");
    }

    /** "2 the DAY of the next one (TODAY or later; NONE: none)". */
    static void promise11TheNextOne() {
        Story x = small().does("plan(0, 3, 2) pay(0, 49)").looks("planned(0, 2)", 2);
        int[] due = {2, 2, 2, 4, 4, 6, 6};
        for (int day = 1; day <= 6; day++) {
            x.due("pass(1)", day).looks("planned(0, 2)", due[day]);
        }
        x.does("pass(1)").refused("planned(0, 2)", -1);
    }

    /** "1 what was paid since": nothing of what was paid ahead of it. */
    static void promise11PaidSince() {
        Story x = small().does("pay(0, 5) promise(0, 9, 0) pay(0, 5) plan(0, 2, 5)").looks("planned(0, 1)", 0);
        x.does("pay(1, 3)").looks("planned(0, 1)", 0).does("pay(0, 1)").looks("planned(0, 1)", 1);
        x.does("pay(0, 99999)").looks("planned(0, 1)", 100000);
    }

    /** "NONE: no such one, another what." */
    static void promise12NoSuchOrderOrWhat() {
        Story x = small().refusedWith("order(?, 0)", -1, "0", "-1", "1", "MIN", "MAX").does("asks(0, 20) asks(1, 31)");
        x.looks("order(0, 2)", 1).looks("order(1, 0)", 1).looks("order(1, 1)", 31).looks("order(1, 2)", 0);
        x.refusedWith("order(?, 0)", -1, "-1", "2", "40", "MIN", "MAX").refusedWith("order(?, 3)", -1, "-1", "2");
        x.refusedWith("order(0, ?)", -1, "-1", "4", "5", "MIN", "MAX").refusedWith("order(1, ?)", -1, "-1", "4", "-4");
        full().looks("order(39, 0)", 3).looks("order(39, 1)", 9999).refusedWith("order(?, 1)", -1, "40", "-1");
    }

    /** "3 the INVOICE by which it was BILLED (NONE: not so)": INVOICE 0 is one, too. */
    static void promise12BilledByTheFirst() {
        Story x = Story.told("hold 1;debtor 9 0;").does("asks(0, 9) asks(0, 1)").looks("order(0, 3)", -1);
        x.due("ships(0)", 0).looks("order(0, 3)", 0).looks("order(1, 3)", -1).does("cancel(1)");
        x.looks("order(1, 3)", -1).does("asks(0, 1)").looks("order(2, 3)", -1);
    }

    /** "NONE - 99999999: no such one, another what." */
    static void promise13NoSuchDebtorOrWhat() {
        Story x = small().looks("aged(-1, 0)", 110).looks("aged(0, 0)", 50).looks("aged(1, 4)", 0);
        x.refusedWith("aged(?, 0)", NO_SUM, "-2", "2", "6", "MIN", "MAX").refusedWith("aged(?, 4)", NO_SUM, "-2", "2");
        x.refusedWith("aged(0, ?)", NO_SUM, "-1", "5", "6", "MIN", "MAX");
        x.refusedWith("aged(-1, ?)", NO_SUM, "-1", "5", "MIN", "MAX").refused("aged(2, 5)", NO_SUM);
        Story.told("hold 1;").looks("aged(-1, 0)", 0).looks("aged(-1, 4)", 0).refused("aged(0, 0)", NO_SUM);
    }

    /** "by AGE: what 0: 0, 1: 1 to 30, 2: 31 to 60, 3: above 60": each side of each of them. */
    static void promise13BracketsOfAge() {
        Story x = Story.told("hold 1;debtor 0 0;debtor 0 0;invoice 0 7 0;invoice 1 500 0;").does("dispute(1)");
        int[] days = {1, 29, 1, 29, 1, 90};
        int[] bracket = {1, 1, 2, 2, 3, 3};
        x.looks("aged(0, 0)", 7).looks("aged(0, 1)", 0);
        for (int i = 0; i < days.length; i++) {
            x.does("pass(" + days[i] + ")");
            for (int what = 0; what <= 3; what++) {
                x.due("aged(0, " + what + ")", what == bracket[i] ? 7 : 0);
                x.due("aged(-1, " + what + ")", what == bracket[i] ? 7 : 0).due("aged(1, " + what + ")", 0);
            }
            x.due("aged(0, 4)", 0).due("aged(1, 4)", 500).due("aged(-1, 4)", 500);
        }
    }

    /** "OPEN of INVOICES": what is paid is in none of them, what is DISPUTED in the last alone. */
    static void promise13OpenAndDisputed() {
        Story x = Story.told("hold 1;debtor 0 0;invoice 0 7 0;invoice 0 9 0;").does("pass(31) pay(0, 6)");
        x.looks("aged(0, 2)", 10).does("pay(0, 1)").looks("aged(0, 2)", 9).does("dispute(1)").looks("aged(0, 2)", 0);
        x.looks("aged(0, 4)", 9).does("settle(1, 8)").looks("aged(0, 4)", 0).looks("aged(0, 2)", 1);
    }

    /** "NONE: no such one." */
    static void promise14NoSuchDebtor() {
        small().looks("next(0)", 3).looks("next(1)", 2).refusedWith("next(?)", -1, "-1", "2", "6", "MIN", "MAX");
        Story.told("hold 1;").refusedWith("next(?)", -1, "0", "-1");
    }

    /** "behind how many DAYS": 1 is the least. */
    static void promise14OneDay() {
        Story x = Story.told("step 1 0 0;step 1 0 0;step 2 2 0;hold 1;debtor 0 0;invoice 0 5 0;").looks("next(0)", 1);
        x.does("pass(1)").looks("next(0)", 1).does("pass(1)").looks("next(0)", 2).does("pass(1)").looks("next(0)", 1);
        x.does("pass(1)").looks("next(0)", -2).looks("debtor(0, 9)", 1);
    }

    /** "-2: not in 200": 199, 200 and 201 DAYS. */
    static void promise14NotIn200() {
        // The PLAN ends with DAY 120; AGE is 99 when DAY 219 has ENDED.
        Story x = Story.told("step 99 0 0;hold 1;debtor 0 0;invoice 0 12 2;").does("plan(0, 4, 30) pay(0, 9)");
        x.looks("next(0)", -2).does("pass(18)").looks("next(0)", -2).does("pass(1)").looks("next(0)", -2);
        x.does("pass(1)").looks("next(0)", 200).does("pass(1)").looks("next(0)", 199);
        x.does("pass(99) pass(99)").looks("next(0)", 1).due("debtor(0, 5)", 0).does("pass(1)").due("debtor(0, 5)", 1);
    }

    /** "if nothing is done": a PROMISE, a PLAN ends by itself, on the first DAY or the last that it can. */
    static void promise14WhenAPromiseOrPlanEnds() {
        Story x = Story.told("step 1 0 0;hold 1;debtor 0 0;invoice 0 10 0;").looks("next(0)", 1);
        x.does("promise(0, 5, 0)").looks("next(0)", 2).does("undo() promise(0, 5, 30)").looks("next(0)", 32);
        x.does("undo() plan(0, 2, 1)").looks("next(0)", 3).does("pay(0, 5)").looks("next(0)", 4);
        x.does("undo() undo() plan(0, 2, 30)").looks("next(0)", 32).does("pay(0, 4)").looks("next(0)", 32);
        x.does("pay(0, 1)").looks("next(0)", 62).does("pay(0, 5)").looks("next(0)", -2);
    }

    /** "-2: not in 200": what never comes. */
    static void promise14Never() {
        Story.told("step 1 1 1;hold 1;debtor 0 0;").looks("next(0)", -2);
        Story.told("hold 1;debtor 0 0;invoice 0 5 0;").looks("next(0)", -2);
        Story x = Story.told("step 1 1 1;hold 1;debtor 0 0;invoice 0 5 0;").looks("next(0)", 1);
        x.does("dispute(0)").looks("next(0)", -2).does("settle(0, 4)").looks("next(0)", 1);
        x.does("pay(0, 1)").looks("next(0)", -2).does("undo() pass(1)").looks("next(0)", -2);
    }

    /** "On paper": no DAY bounds it, not even the last one to which pass() goes. */
    static void promise14AtTheLastDay() {
        Story x = Story.told("step 3 0 0;hold 1;debtor 0 0;");
        for (int i = 0; i < 10; i++) {
            x.does("pass(99)");
        }
        x.does("pass(9) bill(0, 5, 0)").looks("next(0)", 3).refused("pass(1)", -1).looks("now(0)", 999);
    }

    /** "NONE: as pay()." */
    static void promise15AsPay() {
        Story x = small().does("asks(0, 25)").looks("would(0, 1)", 0).looks("would(0, 99999)", 1);
        x.refusedWith("would(0, ?)", -1, "0", "-1", "100000", "MIN", "MAX");
        x.refusedWith("would(?, 5)", -1, "-1", "2", "6", "MIN", "MAX");
        Story.told("hold 1;").refused("would(0, 5)", -1);
    }

    /** "how many ORDERS of a DEBTOR would be RELEASED": up to the LIMIT, and one less. */
    static void promise15UpToTheLimit() {
        Story x = Story.told("hold 1;debtor 100 0;debtor 9 0;invoice 0 60 0;").looks("would(0, 99999)", 0);
        x.does("asks(0, 30)").looks("would(0, 50)", 0).does("asks(0, 20) asks(0, 5) asks(1, 10)");
        x.looks("would(0, 9)", 0).looks("would(0, 10)", 1).looks("would(0, 14)", 1).looks("would(0, 15)", 2);
        x.looks("would(0, 99999)", 2).looks("would(1, 1)", 1).does("pay(0, 15)").looks("would(0, 99999)", 0);
        // One that does not fit keeps those behind it, though they would.
        x.does("asks(0, 90) asks(0, 1)").looks("would(0, 88)", 0).looks("would(0, 89)", 0).looks("would(0, 90)", 1);
        x.looks("would(0, 91)", 2).looks("order(4, 2)", 0);
    }

    /** "STAGE is below N of 'hold'": a payment does not lower STAGE. */
    static void promise15HeldByStage() {
        Story x = Story.told("step 1 0 0;step 2 0 0;hold 2;debtor 0 0;invoice 0 5 0;").does("asks(0, 3)");
        x.looks("would(0, 7)", 0).looks("would(0, 8)", 1).does("pass(1)").looks("would(0, 8)", 1);
        x.does("pass(1)").looks("would(0, 8)", 0).looks("would(0, 99999)", 0);
    }
}
