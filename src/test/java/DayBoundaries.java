/** Promise 25 at its boundaries: how many DAYS pass, and what happens when A DAY ENDS. */
final class DayBoundaries {
    private DayBoundaries() {
    }

    /** One DEBTOR with an INVOICE of 10, DUE on DAY 0. */
    private static Story owesTen(String steps) {
        return Story.told(steps + "hold 1;debtor 100 0;invoice 0 10 0;");
    }

    /** "So many DAYS (1 to 99) END"; "NONE: another number". */
    static void promise25Days1To99() {
        Story x = owesTen("step 9 0 0;").refusedWith("pass(?)", -1, "0", "-1", "100", "101", "MIN", "MAX");
        x.due("pass(1)", 1).due("now(0)", 1).due("pass(99)", 100).due("now(0)", 100).due("invoice(0, 4)", 100);
        x.refusedWith("pass(?)", -1, "0", "100");
        Story.fresh().refusedWith("pass(?)", -1, "0", "100").due("pass(1)", 1).due("pass(99)", 100);
    }

    /** "TODAY would be above 999." */
    static void promise25NotAbove999() {
        Story x = owesTen("");
        for (int i = 1; i <= 9; i++) {
            x.due("pass(99)", 99 * i);
        }
        x.due("pass(10)", 901).refused("pass(99)", -1).looks("pass(0)", -1).due("pass(98)", 999);
        x.refusedWith("pass(?)", -1, "1", "2", "99", "MAX").due("undo()", 9).due("pass(97)", 998);
        x.refusedWith("pass(?)", -1, "2", "99").due("pass(1)", 999).due("invoice(0, 4)", 999).refused("pass(1)", -1);
        Story y = owesTen("");
        for (int i = 1; i <= 9; i++) {
            y.due("pass(99)", 99 * i);
        }
        y.due("pass(9)", 900).due("pass(99)", 999);
    }

    /** Many DAYS at once are the same as one by one. */
    static void promise25DaysOneByOne() {
        String text = "step 2 0 3;step 4 3 0;step 9 1 5;hold 2;debtor 40 1;debtor 30 2;invoice 0 20 1;invoice 1 9 3;";
        String acts = "asks(0, 30) asks(1, 5) promise(0, 9, 3) plan(1, 3, 4) pay(1, 3)";
        Story once = Story.told(text).does(acts).does("pass(12)");
        Story daily = Story.told(text).does(acts).does("pass(1) ".repeat(12));
        // The PROMISE breaks with DAY 3, the PLAN with DAY 8; STEPS are done on DAYS 6, 9 and 11.
        int[] ages = {8, 3, 6, 1};
        for (int i = 0; i < ages.length; i++) {
            once.due("invoice(" + i + ", 4)", ages[i]);
            daily.due("invoice(" + i + ", 4)", ages[i]);
        }
        int[] first = {40, 1, 23, 23, 0, 2, 9, 8, 1, 0, 23};
        for (int what = 0; what < first.length; what++) {
            once.due("debtor(0, " + what + ")", first[what]);
            daily.due("debtor(0, " + what + ")", first[what]);
        }
        once.due("debtor(1, 5)", 1).due("debtor(1, 6)", 11).due("now(3)", 4).due("order(0, 2)", 0);
        daily.due("debtor(1, 5)", 1).due("debtor(1, 6)", 11).due("now(3)", 4).due("order(0, 2)", 0);
    }

    /** "(1) .. TODAY being its DUE or later". */
    static void promise25AgeFromDueOn() {
        Story x = Story.told("hold 1;debtor 0 0;invoice 0 5 2;invoice 0 6 0;").does("pass(1)").due("invoice(1, 4)", 1);
        x.due("invoice(0, 4)", 0).does("pass(1)").due("invoice(0, 4)", 0).does("pass(1)").due("invoice(0, 4)", 1);
        x.does("pass(1)").due("invoice(0, 4)", 2).due("invoice(1, 4)", 4);
    }

    /** "(1) of each INVOICE that is OPEN": 1 is OPEN, 0 is not. */
    static void promise25AgeOfWhatIsOpen() {
        Story x = owesTen("").does("pass(1) pay(0, 9) pass(1)").due("invoice(0, 4)", 2).does("pay(0, 1) pass(1)");
        x.due("invoice(0, 4)", 2).does("pass(50)").due("invoice(0, 4)", 2);
    }

    /** "(1) .. and not DISPUTED". */
    static void promise25NoAgeWhileDisputed() {
        Story x = owesTen("").does("dispute(0) pass(3)").due("invoice(0, 4)", 0).does("settle(0, 0) pass(1)");
        x.due("invoice(0, 4)", 1).does("dispute(0) pass(9)").due("invoice(0, 4)", 1);
    }

    /** "(1) .. if its DEBTOR has neither PROMISE nor PLAN": on the last DAY of a PROMISE it still has it. */
    static void promise25NoAgeUnderAPromise() {
        Story x = Story.told("hold 1;debtor 0 0;debtor 0 0;invoice 0 10 0;invoice 1 10 0;").does("promise(0, 5, 2)");
        x.does("pass(2)").due("invoice(0, 4)", 0).due("invoice(1, 4)", 2).does("pass(1)").due("invoice(0, 4)", 0);
        x.due("promised(0, 0)", -1).does("pass(1)").due("invoice(0, 4)", 1).due("invoice(1, 4)", 4);
    }

    /** The same of a PLAN, on the DAY on which it breaks, and on the DAY on which it is kept. */
    static void promise25NoAgeUnderAPlan() {
        Story x = owesTen("").does("plan(0, 2, 2) pass(2)").due("invoice(0, 4)", 0).due("planned(0, 0)", 2);
        x.does("pass(1)").due("planned(0, 0)", -1).due("invoice(0, 4)", 0).does("pass(1)").due("invoice(0, 4)", 1);
        Story y = owesTen("").does("plan(0, 2, 1) bill(0, 7, 0) pay(0, 10) pass(2)").due("planned(0, 0)", 2);
        y.does("pass(1)").due("planned(0, 0)", -1).due("invoice(1, 4)", 0).does("pass(1)").due("invoice(1, 4)", 1);
    }

    /** "(2) .. a PROMISE by TODAY is over": on no DAY ahead of it. */
    static void promise25PromiseByToday() {
        Story x = owesTen("").does("promise(0, 5, 1) pass(1)").due("promised(0, 0)", 5).due("debtor(0, 8)", 0);
        x.does("pass(1)").due("promised(0, 0)", -1).due("debtor(0, 8)", 1);
        Story y = owesTen("").does("promise(0, 5, 0) pass(1)").due("promised(0, 0)", -1).due("debtor(0, 8)", 1);
        y.does("promise(0, 5, 31) pass(30)").due("promised(0, 1)", 31).does("pass(1)").due("debtor(0, 8)", 2);
        // What is paid ahead of its DAY does not end it.
        Story z = owesTen("").does("promise(0, 5, 1) pay(0, 5) pass(1)").due("promised(0, 0)", 5);
        z.does("pass(1)").due("promised(0, 0)", -1).due("debtor(0, 8)", 0);
    }

    /** "it was kept, if what was paid since it was given is its SUM or more". */
    static void promise25PromiseKept() {
        int[] paid = {4, 5, 6, 99999};
        for (int sum : paid) {
            Story x = owesTen("").does("promise(0, 5, 0) pay(0, " + sum + ") pass(1)");
            x.due("debtor(0, 8)", sum < 5 ? 1 : 0).due("promised(0, 0)", -1);
        }
        owesTen("").does("pay(0, 5) promise(0, 5, 0) pay(0, 4) pass(1)").due("debtor(0, 8)", 1);
        owesTen("").does("promise(0, 5, 1) pay(0, 4) pass(1) pay(0, 1) pass(1)").due("debtor(0, 8)", 0);
    }

    /** "less than that one and all ahead of it together, it is over (broken)". */
    static void promise25PlanBroken() {
        String house = "hold 1;debtor 0 0;invoice 0 13 0;";
        // 5, 4, 4 on DAYS 2, 4, 6.
        Story x = Story.told(house).does("plan(0, 3, 2) pay(0, 4) pass(2)").due("planned(0, 0)", 3).does("pass(1)");
        x.due("planned(0, 0)", -1);
        Story y = Story.told(house).does("plan(0, 3, 2) pay(0, 5) pass(3)").due("planned(0, 0)", 3).does("pay(0, 3)");
        y.does("pass(1)").due("planned(0, 0)", 3).does("pass(1)").due("planned(0, 0)", -1);
        Story z = Story.told(house).does("plan(0, 3, 2) pass(2) pay(0, 5) pass(2) pay(0, 4) pass(1)");
        z.due("planned(0, 0)", 3).does("pass(1)").due("planned(0, 0)", 3).does("pass(1)").due("planned(0, 0)", -1);
    }

    /** "if an INSTALMENT falls on TODAY": on no other DAY is it looked at. */
    static void promise25PlanOnItsDaysAlone() {
        Story x = owesTen("").does("plan(0, 2, 30) pass(30)").due("planned(0, 0)", 2).does("pass(1)");
        x.due("planned(0, 0)", -1);
        Story y = owesTen("").does("plan(0, 2, 30) pay(0, 5) pass(31)").due("planned(0, 0)", 2).does("pass(29)");
        y.due("planned(0, 0)", 2).does("pass(1)").due("planned(0, 0)", -1);
    }

    /** "if DEBT is 0 .. it is over (kept)": 1 is not 0; what is DISPUTED is no DEBT. */
    static void promise25PlanKeptWithDebt0() {
        Story x = owesTen("").does("plan(0, 2, 30) pay(0, 9) pass(1)").due("planned(0, 0)", 2).does("pay(0, 1)");
        x.due("planned(0, 0)", 2).does("pass(1)").due("planned(0, 0)", -1);
        Story y = Story.told("hold 1;debtor 0 0;invoice 0 10 0;invoice 0 5 0;").does("dispute(1) plan(0, 2, 30)");
        y.does("pay(0, 10) pass(1)").due("planned(0, 0)", -1).due("debtor(0, 2)", 5);
    }

    /** "or the last INSTALMENT falls on TODAY". */
    static void promise25PlanEndsWithItsLast() {
        Story x = owesTen("").does("plan(0, 2, 2) bill(0, 90, 0) pay(0, 10) pass(4)").due("planned(0, 0)", 2);
        x.does("pass(1)").due("planned(0, 0)", -1).due("debtor(0, 3)", 90);
        Story twelve = Story.told("hold 1;debtor 0 0;invoice 0 12 0;").does("plan(0, 12, 1) pay(0, 11) pass(12)");
        twelve.due("planned(0, 0)", 12).due("planned(0, 2)", 12).does("pass(1)").due("planned(0, 0)", -1);
    }

    /** "(4) .. if no INVOICE that is OPEN and not DISPUTED has an AGE above 0, STAGE is 0". */
    static void promise25StageIs0WithoutAge() {
        String house = "step 1 0 0;step 9 0 0;hold 1;debtor 0 0;invoice 0 5 0;invoice 0 6 ";
        Story one = Story.told(house + "1;").does("pass(1)").due("debtor(0, 5)", 1).does("pay(0, 5)");
        one.due("debtor(0, 5)", 1).does("pass(1)").due("debtor(0, 7)", 1).due("debtor(0, 5)", 1);
        Story two = Story.told(house + "2;").does("pass(1) pay(0, 5)").due("debtor(0, 5)", 1).does("pass(1)");
        two.due("debtor(0, 7)", 0).due("debtor(0, 5)", 0).due("debtor(0, 6)", 1).does("pass(1)").due("debtor(0, 5)", 1);
        Story disputed = Story.told(house + "9;").does("pass(1) dispute(0) pass(1)").due("debtor(0, 5)", 0);
        disputed.due("invoice(0, 4)", 1);
        // Neither PROMISE nor PLAN keeps STAGE.
        Story planned = Story.told(house + "9;").does("pass(1) plan(0, 2, 9) pay(0, 5) pass(1)").due("debtor(0, 5)", 0);
        planned.due("planned(0, 0)", 2);
    }

    /** "(but where it is at COURT)": from the last STEP on, not ahead of it. */
    static void promise25StageAtCourtStays() {
        Story x = owesTen("step 1 0 0;step 2 0 0;").does("pass(2) pay(0, 10) pass(9)").due("debtor(0, 5)", 2);
        x.due("debtor(0, 9)", 1);
        owesTen("step 1 0 0;step 2 0 0;").does("pass(1) pay(0, 10) pass(1)").due("debtor(0, 5)", 0);
    }

    /** "the greatest AGE of those INVOICES is FROM of STEP STAGE or more". */
    static void promise25StepFromItsAge() {
        for (int from : new int[] {1, 2, 99}) {
            Story x = owesTen("step " + from + " 0 0;").does(from == 1 ? "" : "pass(" + (from - 1) + ")");
            x.due("debtor(0, 5)", 0).does("pass(1)").due("debtor(0, 5)", 1).due("debtor(0, 6)", from);
        }
        // The second STEP has a FROM of its own.
        Story y = owesTen("step 1 0 0;step 4 0 0;").does("pass(3)").due("debtor(0, 5)", 1).does("pass(1)");
        y.due("debtor(0, 5)", 2);
        // The greatest AGE counts, whichever INVOICE has it.
        Story z = Story.told("step 3 0 0;hold 1;debtor 0 0;invoice 0 5 2;invoice 0 5 0;invoice 0 5 1;").does("pass(2)");
        z.due("debtor(0, 5)", 0).does("pass(1)").due("debtor(0, 5)", 1);
    }

    /** "TODAY less the DAY of the latest is GAP of it or more". */
    static void promise25StepBehindItsGap() {
        for (int gap : new int[] {1, 2, 99}) {
            Story x = owesTen("step 1 0 0;step 1 " + gap + " 0;").does("pass(1)").due("debtor(0, 5)", 1);
            x.does(gap == 1 ? "" : "pass(" + (gap - 1) + ")").due("debtor(0, 5)", 1).due("debtor(0, 6)", 1);
            x.does("pass(1)").due("debtor(0, 5)", 2).due("debtor(0, 6)", 1 + gap);
        }
    }

    /** "STAGE is 0 or": the first STEP has no GAP to wait for, be it the second time, too. */
    static void promise25FirstStepWithoutGap() {
        Story x = owesTen("step 1 99 0;step 9 0 0;").does("pass(1)").due("debtor(0, 5)", 1).does("pay(0, 10) pass(1)");
        x.due("debtor(0, 5)", 0).does("bill(0, 5, 0) pass(1)").due("debtor(0, 5)", 1).due("debtor(0, 6)", 3);
    }

    /** "(One STEP a DAY.)", up to as many as there are. */
    static void promise25OneStepADay() {
        Story x = owesTen("step 1 0 0;".repeat(6)).due("debtor(0, 5)", 0);
        for (int day = 1; day <= 8; day++) {
            x.does("pass(1)").due("debtor(0, 5)", Math.min(day, 6)).due("debtor(0, 6)", Math.min(day, 6));
            x.due("debtor(0, 9)", day < 6 ? 0 : 1);
        }
        owesTen("").does("pass(99)").due("debtor(0, 5)", 0).due("debtor(0, 6)", 0).due("debtor(0, 7)", 99);
    }

    /** "if it has neither PROMISE nor PLAN": the DAY on which it ends holds no STEP. */
    static void promise25NoStepUnderPromiseOrPlan() {
        Story x = owesTen("step 1 0 0;step 1 0 0;").does("pass(1) promise(0, 5, 2) pass(1)").due("debtor(0, 5)", 1);
        x.does("pass(1)").due("debtor(0, 5)", 2);
        Story y = owesTen("step 1 0 0;step 1 0 0;").does("pass(1) plan(0, 2, 1) pass(1)").due("debtor(0, 5)", 1);
        y.does("pass(1)").due("planned(0, 0)", -1).due("debtor(0, 5)", 2);
    }

    /** "a FEE above 0 is a further INVOICE, DUE TODAY". */
    static void promise25FeeAbove0() {
        owesTen("step 1 0 0;").does("pass(1)").due("debtor(0, 5)", 1).due("now(3)", 1).due("invoice(1, 0)", -1);
        for (int fee : new int[] {1, 999}) {
            Story x = owesTen("step 2 0 " + fee + ";").does("pass(2)").due("now(3)", 2);
            int[] due = {0, fee, fee, 2, 0, 0, 1};
            for (int what = 0; what < due.length; what++) {
                x.due("invoice(1, " + what + ")", due[what]);
            }
            x.due("debtor(0, 2)", 10 + fee).does("pass(1)").due("invoice(1, 4)", 1);
        }
    }

    /** "(if there are fewer than 60)": the STEP is done, with or without it. */
    static void promise25FeeFewerThan60() {
        for (int left = 0; left <= 2; left++) {
            Story x = Story.told("step 1 0 7;hold 1;debtor 0 0;debtor 0 0;invoice 0 5 0;invoice 1 5 0;");
            for (int i = 2; i < 60 - left; i++) {
                x.due("bill(0, 1, 99)", i);
            }
            x.does("pass(1)").due("now(3)", 60).due("debtor(0, 5)", 1).due("debtor(1, 5)", 1);
            x.due("debtor(0, 2)", 5 + 58 - left + (left > 0 ? 7 : 0)).due("debtor(1, 2)", left > 1 ? 12 : 5);
        }
    }

    /** "(4) DEBTOR by DEBTOR": FEES come by the DEBTORS' numbers. */
    static void promise25FeesDebtorByDebtor() {
        Story x = Story.told("step 1 0 7;hold 1;" + "debtor 0 0;".repeat(6)
            + "invoice 5 5 0;invoice 0 5 0;invoice 3 5 1;");
        x.does("pass(1)").due("now(3)", 5).due("invoice(3, 0)", 0).due("invoice(4, 0)", 5).does("pass(1)");
        x.due("now(3)", 6).due("invoice(5, 0)", 3).due("invoice(5, 3)", 2);
    }

    /** "(5) .. ORDERS are RELEASED": "if STAGE is below N of 'hold'", which (4) has set. */
    static void promise25ReleasedByStage() {
        Story x = owesTen("step 1 0 0;step 9 0 0;").does("pass(1) asks(0, 90) asks(0, 1)").due("order(0, 2)", 0);
        x.does("pass(1)").due("order(0, 2)", 0).does("pay(0, 10)").due("order(0, 2)", 0).does("pass(1)");
        x.due("debtor(0, 5)", 0).due("order(0, 2)", 1).due("order(1, 2)", 1);
        // At COURT, and so at STAGE 1, it stays held.
        Story y = owesTen("step 1 0 0;").does("pass(1) asks(0, 1) pay(0, 10) pass(9)").due("order(0, 2)", 0);
        y.due("debtor(0, 9)", 1);
    }

    /** "RISK with its SUM is LIMIT or less .. at the first that is not, no more". */
    static void promise25ReleasedUpToTheLimit() {
        Story x = Story.told("step 1 0 0;step 9 0 0;hold 1;debtor 100 0;debtor 9 0;invoice 0 10 0;invoice 1 5 0;");
        x.does("pass(1) asks(0, 60) asks(0, 40) asks(0, 1) asks(0, 1) asks(1, 9) pay(0, 10) pass(1)");
        x.due("order(0, 2)", 1).due("order(1, 2)", 1).due("order(2, 2)", 0).due("order(3, 2)", 0).due("order(4, 2)", 0);
        Story y = Story.told("step 1 0 0;step 9 0 0;hold 1;debtor 100 0;invoice 0 10 0;").does("pass(1)");
        y.does("asks(0, 60) asks(0, 41) asks(0, 1) pay(0, 10) pass(1)").due("order(0, 2)", 1).due("order(1, 2)", 0);
        y.due("order(2, 2)", 0);
    }
}
