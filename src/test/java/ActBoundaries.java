/** Promises 16 to 24 at their boundaries: what is done to INVOICES, DEBTORS and ORDERS. */
final class ActBoundaries {
    private ActBoundaries() {
    }

    private static Story twoDebtors() {
        return Story.told("step 3 0 0; hold 1; debtor 100 7; debtor 40 2; invoice 0 60 2; invoice 1 20 9;")
            .does("pass(1)");
    }

    /** All INVOICES but so many of the 60 that can be are there, of DEBTOR 0 of two without LIMIT. */
    private static Story invoicesBut(int left) {
        Story x = Story.told("hold 1;debtor 9999 9;debtor 9999 9;").does("asks(0, 5) asks(0, 6)");
        for (int i = 0; i < 60 - left; i++) {
            x.due("bill(0, 1, 0)", i);
        }
        return x;
    }

    private static Story atDay999(String text) {
        Story x = Story.told(text);
        for (int i = 0; i < 10; i++) {
            x.does("pass(99)");
        }
        return x.does("pass(9)");
    }

    /** "NONE: no such DEBTOR". */
    static void promise16NoSuchDebtor() {
        twoDebtors().refusedWith("bill(?, 5, 5)", -1, "-1", "2", "6", "MIN", "MAX").due("bill(1, 5, 5)", 2);
        Story.told("hold 1;").refused("bill(0, 5, 5)", -1);
    }

    /** "SUM not 1 to 9999". */
    static void promise16Sum1To9999() {
        Story x = twoDebtors().refusedWith("bill(0, ?, 5)", -1, "0", "-1", "10000", "10001", "MIN", "MAX");
        x.due("bill(0, 1, 5)", 2).due("invoice(2, 1)", 1).due("invoice(2, 2)", 1).due("invoice(2, 6)", 0);
        x.due("bill(0, 9999, 5)", 3).due("invoice(3, 1)", 9999).due("invoice(3, 2)", 9999);
    }

    /** "DUE in so many DAYS (0 to 99)"; "another number of DAYS". */
    static void promise16Days0To99() {
        Story x = twoDebtors().refusedWith("bill(0, 5, ?)", -1, "-1", "100", "101", "MIN", "MAX");
        x.due("bill(0, 5, 0)", 2).due("invoice(2, 3)", 1).due("bill(0, 5, 99)", 3).due("invoice(3, 3)", 100);
        atDay999("hold 1;debtor 1 1;").due("bill(0, 5, 99)", 0).due("invoice(0, 3)", 1098);
    }

    /** "-2: there are 60"; "The first that is so". */
    static void promise16ThereAre60() {
        Story x = invoicesBut(2).due("now(3)", 58).due("bill(1, 7, 3)", 58).due("bill(1, 7, 4)", 59);
        x.due("now(3)", 60).refused("bill(1, 7, 5)", -2).refused("bill(0, 1, 0)", -2).refused("bill(0, 9999, 99)", -2);
        x.refusedWith("bill(?, 7, 5)", -1, "-1", "2").refusedWith("bill(0, ?, 5)", -1, "0", "10000");
        x.refusedWith("bill(0, 7, ?)", -1, "-1", "100").does("undo()").due("bill(0, 1, 0)", 59);
    }

    /** "CASH is PLACED": "till there is none of either". */
    static void promise16CashIsPlaced() {
        Story x = twoDebtors().does("pay(0, 70)").due("debtor(0, 4)", 10).due("bill(1, 30, 1)", 2)
            .due("invoice(2, 2)", 30);
        x.due("bill(0, 9, 1)", 3).due("invoice(3, 2)", 0).due("debtor(0, 4)", 1);
        x.due("bill(0, 1, 1)", 4).due("invoice(4, 2)", 0).due("debtor(0, 4)", 0);
        x.due("bill(0, 1, 1)", 5).due("invoice(5, 2)", 1).due("debtor(0, 4)", 0);
        x.does("undo() undo()").due("bill(0, 3, 1)", 4).due("invoice(4, 2)", 2).due("debtor(0, 4)", 0);
    }

    /** "A DEBTOR pays (1 to 99999)"; "NONE: no such one, another SUM." */
    static void promise17Sum1To99999() {
        Story x = twoDebtors().refusedWith("pay(0, ?)", -1, "0", "-1", "100000", "100001", "MIN", "MAX");
        x.refusedWith("pay(?, 5)", -1, "-1", "2", "6", "MIN", "MAX").refused("pay(2, 0)", -1);
        x.due("pay(0, 1)", 0).due("invoice(0, 2)", 59).due("pay(0, 99999)", 99940).due("pay(0, 99999)", 199939);
        x.due("now(8)", 199999);
        Story.told("hold 1;").refused("pay(0, 5)", -1);
    }

    /** "till there is none of either": as much as is OPEN, one less, one more. */
    static void promise17TillThereIsNone() {
        Story x = twoDebtors().does("bill(0, 40, 50)").due("pay(0, 59)", 0).due("invoice(0, 2)", 1);
        x.due("invoice(2, 2)", 40).due("pay(0, 1)", 0).due("invoice(0, 2)", 0).due("invoice(2, 2)", 40);
        x.due("pay(0, 39)", 0).due("invoice(2, 2)", 1).due("pay(0, 2)", 1).due("invoice(2, 2)", 0);
        x.due("invoice(1, 2)", 20).due("pay(0, 1)", 2);
    }

    /** "the earliest DUE first, of like ones the least number". */
    static void promise17TheEarliestDueFirst() {
        Story x = Story.told("hold 1;debtor 0 0;debtor 0 0;invoice 0 5 4;invoice 0 6 3;invoice 1 9 0;invoice 0 7 3;"
            + "invoice 0 8 2;");
        int[][] open = {{5, 6, 7, 1}, {5, 6, 7, 0}, {5, 5, 7, 0}, {5, 0, 7, 0}, {5, 0, 6, 0}, {5, 0, 0, 0},
            {4, 0, 0, 0}};
        int[] paid = {7, 1, 1, 5, 1, 6, 1};
        int[] invoices = {0, 1, 3, 4};
        for (int i = 0; i < paid.length; i++) {
            x.due("pay(0, " + paid[i] + ")", 0).due("invoice(2, 2)", 9);
            for (int k = 0; k < invoices.length; k++) {
                x.due("invoice(" + invoices[k] + ", 2)", open[i][k]);
            }
        }
    }

    /** "on its INVOICES that are not DISPUTED": where there is no other one, all of it waits. */
    static void promise17NotOnDisputedOnes() {
        Story x = twoDebtors().does("dispute(0)").due("pay(0, 5)", 5).due("invoice(0, 2)", 60).does("bill(0, 6, 99)");
        x.due("invoice(2, 2)", 1).due("pay(0, 2)", 1).due("invoice(2, 2)", 0).due("invoice(0, 2)", 60);
    }

    /** "then its ORDERS are RELEASED": "RISK with its SUM is LIMIT or less". */
    static void promise17OrdersUpToTheLimit() {
        Story x = twoDebtors().does("asks(0, 50) asks(0, 20) asks(0, 1) asks(1, 30)").due("now(5)", 4)
            .due("pay(0, 9)", 0);
        x.due("order(0, 2)", 0).due("pay(0, 1)", 0).due("order(0, 2)", 1).due("order(1, 2)", 0)
            .due("debtor(0, 10)", 100);
        x.due("pay(0, 19)", 0).due("order(1, 2)", 0).due("order(2, 2)", 0).due("pay(0, 1)", 0).due("order(1, 2)", 1);
        x.due("order(2, 2)", 0).due("pay(0, 31)", 1).due("order(2, 2)", 1).due("order(3, 2)", 0);
    }

    /** "Paid since a PROMISE, a PLAN: all that it pays": CASH that waits, too. */
    static void promise17AllThatItPays() {
        Story x = twoDebtors().does("promise(0, 60, 9) plan(1, 2, 9)").due("pay(0, 60)", 0).due("promised(0, 2)", 60);
        x.due("pay(0, 1)", 1).due("promised(0, 2)", 61).due("pay(1, 99999)", 99979).due("planned(1, 1)", 99999);
    }

    /** Payments to the end of an object's calls: sums stay right. */
    static void promise17As512Calls() {
        Story x = Story.told("hold 1;debtor 0 0;");
        for (int i = 1; i <= 508; i++) {
            x.due("pay(0, 99999)", 99999 * i);
        }
        x.due("now(8)", 99999 * 508);
    }

    /** "False: no such one". */
    static void promise18NoSuchInvoice() {
        twoDebtors().refusedWith("dispute(?)", false, "-1", "2", "60", "MIN", "MAX").due("dispute(1)", true);
        Story.told("hold 1;debtor 1 1;").refusedWith("dispute(?)", false, "0", "-1");
        Story x = invoicesBut(0).refusedWith("dispute(?)", false, "60", "-1").due("dispute(59)", true);
        x.due("invoice(59, 5)", 1).due("invoice(58, 5)", 0);
    }

    /** "An OPEN INVOICE": 1 is OPEN, 0 is "not so". */
    static void promise18OpenOrNot() {
        Story x = twoDebtors().does("pay(0, 59)").due("dispute(0)", true).does("undo()").does("pay(0, 1)");
        x.refused("dispute(0)", false).due("invoice(0, 5)", 0);
    }

    /** "it is DISPUTED". */
    static void promise18DisputedTwice() {
        Story x = twoDebtors().due("dispute(0)", true).refused("dispute(0)", false).due("settle(0, 1)", 59);
        x.due("dispute(0)", true).refused("dispute(0)", false).does("settle(0, 59)").refused("dispute(0)", false);
    }

    /** "its DEBTOR has a PLAN"; a PROMISE does not keep it. */
    static void promise18ItsDebtorHasAPlan() {
        Story x = twoDebtors().does("bill(0, 9, 9) plan(0, 2, 1)").refused("dispute(0)", false)
            .refused("dispute(2)", false);
        x.due("dispute(1)", true).does("undo() pass(1)").refused("dispute(0)", false).does("pass(1)");
        // The first INSTALMENT was missed: the PLAN is over.
        x.due("planned(0, 0)", -1).due("dispute(0)", true).does("promise(1, 5, 9)").due("dispute(1)", true);
    }

    /** "NONE: no such one, not so". */
    static void promise19NoSuchOrNotDisputed() {
        Story x = twoDebtors().refusedWith("settle(?, 0)", -1, "0", "1", "-1", "2", "60", "MIN", "MAX")
            .does("dispute(0)");
        x.refusedWith("settle(?, 0)", -1, "1", "-1", "2", "MIN", "MAX").due("settle(0, 0)", 60)
            .refused("settle(0, 0)", -1);
        Story.told("hold 1;debtor 1 1;").refused("settle(0, 0)", -1);
    }

    /** "so much (0 to what is OPEN)"; "another SUM". */
    static void promise19FromNothingToAll() {
        Story x = twoDebtors().does("pay(0, 20) dispute(0)");
        x.refusedWith("settle(0, ?)", -1, "-1", "41", "42", "60", "MIN", "MAX");
        x.due("settle(0, 0)", 40).due("invoice(0, 2)", 40).due("invoice(0, 5)", 0).does("undo()");
        x.due("settle(0, 1)", 39).due("invoice(0, 1)", 60).does("undo()").due("settle(0, 39)", 1).does("undo()");
        x.due("settle(0, 40)", 0).due("invoice(0, 2)", 0).due("invoice(0, 5)", 0).due("debtor(0, 2)", 0);
        x.refused("settle(0, 0)", -1);
    }

    /** "CASH is PLACED": less than what is left, as much, more. */
    static void promise19CashIsPlaced() {
        Story x = twoDebtors().does("dispute(0)").due("pay(0, 30)", 30);
        x.due("settle(0, 29)", 1).due("debtor(0, 4)", 0).does("undo()");
        x.due("settle(0, 30)", 0).due("debtor(0, 4)", 0).does("undo()");
        x.due("settle(0, 31)", 0).due("debtor(0, 4)", 1).does("undo()");
        x.due("settle(0, 60)", 0).due("debtor(0, 4)", 30);
        // The earliest DUE comes first, and it need not be the one that is settled.
        Story y = Story.told("hold 1;debtor 0 0;invoice 0 9 5;invoice 0 4 2;").does("dispute(0) dispute(1) pay(0, 6)");
        y.due("settle(1, 1)", 0).due("debtor(0, 4)", 3).due("settle(0, 2)", 4).due("debtor(0, 4)", 0);
    }

    /** "ORDERS of its DEBTOR are RELEASED": up to the LIMIT. */
    static void promise19OrdersUpToTheLimit() {
        Story x = twoDebtors().does("asks(0, 50) asks(1, 21) dispute(0)").due("settle(0, 9)", 51).due("order(0, 2)", 0);
        x.does("undo()").due("settle(0, 10)", 50).due("order(0, 2)", 1).due("order(1, 2)", 0);
    }

    /** "NONE: no such one, not as told": "a SUM (1 to its DEBT)". */
    static void promise20Sum1ToItsDebt() {
        Story x = twoDebtors().does("bill(0, 9, 9) dispute(2)")
            .refusedWith("promise(?, 5, 5)", -1, "-1", "2", "MIN", "MAX");
        x.refusedWith("promise(0, ?, 5)", -1, "0", "-1", "61", "69", "MIN", "MAX");
        x.due("promise(0, 60, 5)", 0).due("promised(0, 0)", 60).does("undo()").due("promise(0, 1, 5)", 0);
        x.due("promised(0, 0)", 1).refused("promise(0, 1, 5)", -2).does("undo()");
        x.does("pay(0, 59)").refused("promise(0, 2, 5)", -1).due("promise(0, 1, 5)", 0).does("undo() pay(0, 1)");
        x.refusedWith("promise(0, ?, 5)", -1, "0", "1");
        Story.told("hold 1;").refused("promise(0, 1, 0)", -1);
    }

    /** "by a DAY (TODAY to TODAY and 30)". */
    static void promise20DayTodayTo30() {
        Story x = twoDebtors().refusedWith("promise(0, 5, ?)", -1, "0", "-1", "32", "33", "MIN", "MAX");
        x.due("promise(0, 5, 1)", 0).due("promised(0, 1)", 1).does("undo()");
        x.due("promise(0, 5, 31)", 0).due("promised(0, 1)", 31);
        Story y = atDay999("hold 1;debtor 1 1;invoice 0 5 99;").refusedWith("promise(0, 5, ?)", -1, "998", "1030");
        y.due("promise(0, 5, 1029)", 0).does("undo()").due("promise(0, 5, 999)", 0);
    }

    /** "-2: it has a PROMISE or a PLAN"; "The first that is so": NONE stands ahead of it. */
    static void promise20HasOne() {
        Story x = twoDebtors().does("promise(0, 5, 1) plan(1, 2, 9)").refused("promise(0, 5, 1)", -2);
        x.refused("promise(1, 5, 1)", -2).refusedWith("promise(0, ?, 1)", -1, "0", "61")
            .refused("promise(0, 5, 0)", -1);
        x.refused("promise(1, 21, 1)", -1).refused("promise(1, 1, 32)", -1).refused("promise(2, 1, 1)", -1);
        x.does("pass(1)").due("promise(0, 5, 2)", 0);
    }

    /** "-3: it has BROKEN 2"; 1 is not enough. */
    static void promise20Broken2() {
        Story x = twoDebtors().does("promise(0, 5, 1) pass(1)").due("debtor(0, 8)", 1).due("promise(0, 5, 2)", 0);
        x.does("pass(1)").due("debtor(0, 8)", 2).refused("promise(0, 5, 3)", -3).refused("promise(0, 60, 33)", -3);
        // NONE and -2 stand ahead of it, -4 behind it.
        x.refused("promise(0, 61, 3)", -1).refused("promise(0, 5, 34)", -1);
        x.does("plan(0, 2, 1)").refused("promise(0, 5, 3)", -2).refused("promise(0, 0, 3)", -1).does("pass(9)");
        x.due("debtor(0, 9)", 1).refused("promise(0, 5, 12)", -3).does("pay(0, 60)").refused("promise(0, 1, 12)", -1);
    }

    /** "-4: it is at COURT". */
    static void promise20AtCourt() {
        Story x = Story.told("step 1 0 0;step 2 0 0;hold 1;debtor 0 0;invoice 0 9 0;").does("pass(1)");
        x.due("promise(0, 5, 1)", 0).does("undo() pass(1)").due("debtor(0, 9)", 1).refused("promise(0, 5, 2)", -4);
        x.refused("promise(0, 10, 2)", -1).refused("promise(0, 5, 1)", -1);
    }

    /** "NONE: no such one, not as told": "n (2 to 12)". */
    static void promise21N2To12() {
        Story x = twoDebtors().refusedWith("plan(?, 2, 1)", -1, "-1", "2", "6", "MIN", "MAX");
        x.refusedWith("plan(0, ?, 1)", -1, "1", "0", "-1", "13", "14", "MIN", "MAX");
        x.due("plan(0, 2, 1)", 0).due("planned(0, 0)", 2).does("undo()");
        x.due("plan(0, 12, 1)", 0).due("planned(0, 0)", 12).due("planned(0, 21)", 5);
        Story.told("hold 1;").refused("plan(0, 2, 1)", -1);
    }

    /** "so many DAYS (1 to 30)". */
    static void promise21Days1To30() {
        Story x = twoDebtors().refusedWith("plan(0, 2, ?)", -1, "0", "-1", "31", "32", "MIN", "MAX");
        x.due("plan(0, 2, 1)", 0).due("planned(0, 30)", 2).due("planned(0, 31)", 3).does("undo()");
        x.due("plan(0, 2, 30)", 0).due("planned(0, 30)", 31).due("planned(0, 31)", 61);
        Story y = atDay999("hold 1;debtor 1 1;invoice 0 12 99;").due("plan(0, 12, 30)", 0);
        y.due("planned(0, 30)", 1029).due("planned(0, 41)", 1359);
    }

    /** "DEBT by n each, what is left one each to the first ones". */
    static void promise21WhatIsLeft() {
        for (int debt = 12; debt <= 24; debt++) {
            Story x = Story.told("hold 1;debtor 0 0;invoice 0 " + debt + " 0;invoice 0 500 0;").does("dispute(1)");
            x.due("plan(0, 12, 1)", 0);
            for (int k = 0; k < 12; k++) {
                x.due("planned(0, " + (10 + k) + ")", debt == 24 || k < debt - 12 ? 2 : 1);
            }
        }
        Story y = Story.told("hold 1;debtor 0 0;" + "invoice 0 9999 0;".repeat(12)).due("plan(0, 7, 1)", 0);
        // 119988 by 7 are 17141, and 1 is left.
        y.due("planned(0, 10)", 17142).due("planned(0, 11)", 17141).due("planned(0, 16)", 17141);
    }

    /** "-2: it has a PLAN"; "The first that is so". */
    static void promise21HasOne() {
        Story x = twoDebtors().does("plan(0, 2, 30)").refused("plan(0, 2, 30)", -2).refused("plan(0, 12, 1)", -2);
        x.refusedWith("plan(0, ?, 1)", -1, "1", "13").refusedWith("plan(0, 2, ?)", -1, "0", "31");
        x.does("pay(0, 59)").refused("plan(0, 2, 1)", -2).does("pay(0, 1)").refused("plan(0, 2, 1)", -2);
        x.does("pass(1)").refused("plan(0, 2, 1)", -3);
    }

    /** "-3: its DEBT is below n". */
    static void promise21DebtBelowN() {
        Story x = Story.told("step 1 0 0;hold 1;debtor 0 0;invoice 0 11 3;invoice 0 9 3;").does("dispute(1)");
        x.refused("plan(0, 12, 1)", -3).due("plan(0, 11, 1)", 0).due("planned(0, 20)", 1).does("undo() pay(0, 9)");
        x.refused("plan(0, 3, 1)", -3).due("plan(0, 2, 1)", 0).does("undo() pay(0, 1)").refused("plan(0, 2, 1)", -3);
        x.does("pay(0, 1)").refused("plan(0, 2, 1)", -3).refused("plan(0, 1, 1)", -1).refused("plan(0, 2, 0)", -1);
    }

    /** "-4: it is at COURT"; -3 stands ahead of it. */
    static void promise21AtCourt() {
        Story x = Story.told("step 1 0 0;step 2 0 0;hold 1;debtor 0 0;invoice 0 9 0;").does("pass(1)");
        x.due("plan(0, 9, 1)", 0).does("undo() pass(1)").due("debtor(0, 9)", 1).refused("plan(0, 9, 1)", -4);
        x.refused("plan(0, 10, 1)", -3).refused("plan(0, 13, 1)", -1).refused("plan(0, 2, 31)", -1);
    }

    /** "a PROMISE is over then (neither kept nor broken)". */
    static void promise21APromiseIsOver() {
        Story x = twoDebtors().does("promise(0, 5, 1) plan(0, 2, 9)").due("promised(0, 0)", -1).does("pass(1)");
        x.due("debtor(0, 8)", 0).due("planned(0, 0)", 2);
        Story y = twoDebtors().does("promise(0, 5, 1) pay(0, 5) plan(0, 2, 9) pass(1)").due("debtor(0, 8)", 0);
        y.due("promised(0, 0)", -1).refused("promise(0, 5, 2)", -2);
    }

    /** "NONE: no such DEBTOR, SUM not 1 to 9999". */
    static void promise22Sum1To9999() {
        Story x = Story.told("hold 1;debtor 9999 0;debtor 9998 0;")
            .refusedWith("asks(?, 5)", -1, "-1", "2", "MIN", "MAX");
        x.refusedWith("asks(0, ?)", -1, "0", "-1", "10000", "10001", "MIN", "MAX");
        x.due("asks(0, 9999)", 0).due("order(0, 1)", 9999).due("order(0, 2)", 1);
        x.due("asks(1, 9999)", 1).due("order(1, 2)", 0).due("asks(1, 1)", 2).due("order(2, 1)", 1)
            .due("order(2, 2)", 0);
        Story.told("hold 1;").refused("asks(0, 5)", -1);
    }

    /** "-2: there are 40"; "The first that is so". */
    static void promise22ThereAre40() {
        Story x = twoDebtors();
        for (int i = 0; i < 38; i++) {
            x.due("asks(0, 1)", i);
        }
        x.due("now(4)", 38).due("asks(1, 9999)", 38).due("asks(1, 1)", 39).due("now(4)", 40).refused("asks(1, 1)", -2);
        x.refused("asks(0, 9999)", -2).refusedWith("asks(0, ?)", -1, "0", "10000")
            .refusedWith("asks(?, 1)", -1, "-1", "2");
        // Those that are CANCELLED stay among the 40.
        x.does("cancel(0)").refused("asks(0, 1)", -2).does("undo() undo()").due("asks(0, 2)", 39);
    }

    /** "RISK with its SUM is LIMIT or less". */
    static void promise22UpToTheLimit() {
        Story x = twoDebtors().does("asks(0, 40)").due("order(0, 2)", 1).does("asks(0, 1)").due("order(1, 2)", 0);
        twoDebtors().does("asks(0, 41)").due("order(0, 2)", 0).due("now(5)", 1);
        // CASH makes room, LIMIT 0 leaves none.
        x.does("pay(1, 21)").does("asks(1, 41)").due("order(2, 2)", 1).does("asks(1, 1)").due("order(3, 2)", 0);
        Story.told("hold 1;debtor 0 0;").does("asks(0, 1)").due("order(0, 2)", 0).does("pay(0, 1)")
            .due("order(0, 2)", 1);
    }

    /** "RISK of a DEBTOR: what it OWES", "OPEN of all its INVOICES": a DISPUTED one takes its part of the LIMIT. */
    static void promise22DisputedOnesAreRisk() {
        Story x = twoDebtors().does("dispute(0)").due("debtor(0, 2)", 60).due("debtor(0, 3)", 0);
        x.due("debtor(0, 10)", 60).does("asks(0, 41)").due("order(0, 2)", 0).due("would(0, 1)", 1).does("undo() asks(0, 40)");
        x.due("order(0, 2)", 1).due("debtor(0, 10)", 100);
    }

    /** "at the first that is not, no more". */
    static void promise22BehindOneThatWaits() {
        Story x = twoDebtors().does("asks(0, 41) asks(0, 40) asks(1, 20)").due("order(0, 2)", 0).due("order(1, 2)", 0);
        x.due("order(2, 2)", 1).does("cancel(0)").due("order(1, 2)", 1);
    }

    /** "if STAGE is below N of 'hold'". */
    static void promise22HeldByStage() {
        Story x = Story.told("step 1 0 0;step 3 0 0;hold 1;debtor 99 0;invoice 0 1 0;").does("asks(0, 1)");
        x.due("order(0, 2)", 1).does("pass(1) asks(0, 1)").due("order(1, 2)", 0);
        Story y = Story.told("step 1 0 0;step 3 0 0;hold 2;debtor 99 0;invoice 0 1 0;").does("pass(2) asks(0, 1)");
        y.due("order(0, 2)", 1).does("pass(1) asks(0, 1)").due("order(1, 2)", 0);
    }

    /** "NONE: no such one, not so": it WAITS, is BILLED, CANCELLED. */
    static void promise23NoSuchOrNotReleased() {
        Story x = twoDebtors().refusedWith("ships(?)", -1, "0", "-1", "1", "MIN", "MAX").does("asks(0, 40) asks(0, 1)");
        x.refusedWith("ships(?)", -1, "1", "-1", "2", "40", "MIN", "MAX").due("ships(0)", 2).refused("ships(0)", -1);
        x.does("cancel(1)").refused("ships(1)", -1).due("order(0, 3)", 2).due("order(1, 3)", -1);
    }

    /** "DUE in TERMS DAYS": 0 and 99 of them. */
    static void promise23DueInTerms() {
        Story x = Story.told("hold 1;debtor 9 0;debtor 9 99;").does("pass(3) asks(0, 4) asks(1, 9)");
        x.due("ships(1)", 0).due("invoice(0, 0)", 1).due("invoice(0, 1)", 9).due("invoice(0, 3)", 102);
        x.due("ships(0)", 1).due("invoice(1, 0)", 0).due("invoice(1, 3)", 3).due("invoice(1, 6)", 0);
    }

    /** "CASH is PLACED". */
    static void promise23CashIsPlaced() {
        Story x = twoDebtors().does("pay(0, 70) asks(0, 11) asks(0, 9)").due("ships(1)", 2).due("invoice(2, 2)", 0);
        x.due("debtor(0, 4)", 1).due("ships(0)", 3).due("invoice(3, 2)", 10).due("debtor(0, 4)", 0);
    }

    /** "-2: there are 60 INVOICES"; "The first that is so". */
    static void promise23ThereAre60() {
        Story x = invoicesBut(1).due("ships(1)", 59).due("order(1, 3)", 59).refused("ships(0)", -2)
            .refused("ships(1)", -1);
        x.refusedWith("ships(?)", -1, "-1", "2").due("order(0, 2)", 1).does("cancel(0)").refused("ships(0)", -1);
        invoicesBut(2).due("ships(0)", 58).due("ships(1)", 59);
    }

    /** "False: no such one, not so": it is BILLED, CANCELLED. */
    static void promise24NoSuchOrNotSo() {
        Story x = twoDebtors().refusedWith("cancel(?)", false, "0", "-1", "1", "MIN", "MAX")
            .does("asks(0, 40) asks(0, 1)");
        x.refusedWith("cancel(?)", false, "-1", "2", "40", "MIN", "MAX").due("cancel(1)", true)
            .refused("cancel(1)", false);
        x.due("order(1, 2)", 3).does("ships(0)").refused("cancel(0)", false).due("order(0, 2)", 2);
    }

    /** "An ORDER that WAITS or is RELEASED": both; the last of 40, too. */
    static void promise24WaitsOrIsReleased() {
        Story x = twoDebtors().does("asks(0, 40) asks(0, 1)").due("cancel(0)", true).due("order(0, 2)", 3);
        x.due("order(1, 2)", 1).does("undo()").due("cancel(1)", true).due("order(1, 2)", 3).due("order(0, 2)", 1);
        Story y = twoDebtors();
        for (int i = 0; i < 40; i++) {
            y.due("asks(1, 21)", i);
        }
        y.due("cancel(39)", true).refused("cancel(40)", false).due("now(5)", 39);
    }

    /** "then ORDERS of its DEBTOR are RELEASED": up to the LIMIT, and none of another DEBTOR. */
    static void promise24OrdersUpToTheLimit() {
        Story x = twoDebtors().does("asks(0, 19) asks(0, 21) asks(0, 40) asks(0, 1) asks(1, 21)").due("order(1, 2)", 1);
        x.due("order(2, 2)", 0).does("cancel(0)").due("order(2, 2)", 0).does("cancel(1)").due("order(2, 2)", 1);
        x.due("order(3, 2)", 0).due("order(4, 2)", 0).does("cancel(2)").due("order(3, 2)", 1).due("order(4, 2)", 0);
    }
}
