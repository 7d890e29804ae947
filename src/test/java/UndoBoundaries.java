/** Promise 26 at its boundaries: what can be undone, and how much of it. */
final class UndoBoundaries {
    private static final String[] ACTS = {"bill(0, 5, 5)", "pay(0, 305)", "dispute(0)", "settle(1, 50)",
        "promise(0, 5, 5)", "plan(0, 5, 5)", "asks(1, 5)", "ships(0)", "cancel(0)", "pass(30)"};

    private UndoBoundaries() {
    }

    private static Story house() {
        return Story.told("step 3 0 10;step 5 2 0;step 8 2 50;hold 2;debtor 500 10;debtor 100 5;invoice 0 200 1;"
            + "invoice 0 100 4;invoice 1 80 0;").does("asks(0, 150) asks(0, 100) dispute(1)");
    }

    /** "NONE: none is": on a new object, behind a TEXT, behind the last one. */
    static void promise26NoneIs() {
        Story.fresh().refused("undo()", -1).does("pass(1)").due("undo()", 0).refused("undo()", -1).due("now(0)", 0);
        Story x = Story.told("hold 1;debtor 9 0;").refused("undo()", -1).does("pay(0, 5)").due("now(9)", 1);
        x.due("undo()", 0).refused("undo()", -1).due("now(8)", 0).due("now(9)", 0);
    }

    /** "The latest bill(), pay(), .. pass() that was done is undone": each of the ten. */
    static void promise26EachActIsUndone() {
        for (String act : ACTS) {
            house().changesNothing(act + " undo()");
            house().does(act).due("now(9)", 4).due("undo()", 3).due("now(9)", 3);
        }
    }

    /** "10 at most are kept": 9, 10 and 11 acts. */
    static void promise26TenAtMost() {
        for (int acts = 9; acts <= 11; acts++) {
            Story x = Story.told("hold 1;debtor 9 0;");
            for (int i = 1; i <= acts; i++) {
                x.due("pay(0, 1)", i).due("now(9)", Math.min(i, 10));
            }
            int kept = Math.min(acts, 10);
            for (int left = kept - 1; left >= 0; left--) {
                x.due("undo()", left).due("debtor(0, 4)", acts - kept + left).due("now(9)", left);
            }
            x.refused("undo()", -1).due("debtor(0, 4)", acts - kept);
        }
    }

    /** The oldest gives way, again and again, and what is undone makes room anew. */
    static void promise26TheOldestGivesWay() {
        Story x = Story.told("hold 1;debtor 9 0;");
        int cash = 0;
        for (int round = 1; round <= 4; round++) {
            for (int i = 0; i < 13; i++) {
                cash += round;
                x.due("pay(0, " + round + ")", cash);
            }
            x.due("now(9)", 10);
            for (int i = 1; i <= 3 + round; i++) {
                cash -= round;
                x.due("undo()", 10 - i).due("debtor(0, 4)", cash);
            }
        }
        // Six acts and what 10 lets stay of the ones ahead of them: three of the last round are left.
        x.due("undo()", 2).due("undo()", 1).due("undo()", 0).refused("undo()", -1).due("debtor(0, 4)", cash - 12);
    }

    /** "that was done": refused calls and looks are not kept. */
    static void promise26RefusedIsNotKept() {
        String[] refused = {"bill(0, 0, 0)", "bill(2, 5, 5)", "pay(0, 0)", "pay(0, 100000)", "settle(0, 0)",
            "settle(1, 101)",
            "promise(0, 201, 0)", "plan(0, 1, 1)", "asks(0, 0)", "ships(1)", "pass(0)", "pass(100)"};
        for (String call : refused) {
            house().refused(call, -1).does("undo()").due("invoice(1, 5)", 0).due("now(9)", 2);
        }
        house().refused("dispute(1)", false).refused("dispute(3)", false).refused("cancel(2)", false);
        house().refused("debtor(0, 11)", Call.NO_SUCH).looks("next(0)", 4).looks("would(0, 50)", 1).does("undo()")
            .due("invoice(1, 5)", 0).due("now(9)", 2);
    }

    /** A refused call leaves all ten of those that are kept. */
    static void promise26RefusedLeavesTheTen() {
        Story x = Story.told("hold 1;debtor 9 0;");
        for (int i = 1; i <= 12; i++) {
            x.due("pay(0, 1)", i);
        }
        x.refused("pay(0, 0)", -1).refused("bill(0, 0, 0)", -1).refused("ships(0)", -1).refused("cancel(0)", false);
        x.refused("pass(100)", -1).refused("dispute(0)", false).refused("promise(0, 1, 0)", -1)
            .refused("plan(0, 2, 1)", -3);
    }

    /** "A new TEXT: .. nothing can be undone"; with a FAULT "all stays". */
    static void promise26BehindAText() {
        Story x = house().refusesText("hold 0;", -6, 2).refusesText("", -1, 1).due("now(9)", 3);
        x.tells("hold 0;", -6, 2).due("undo()", 2).due("invoice(1, 5)", 0).due("fault()", 2);
        x.tells("hold 1;debtor 5 5;", 2, 0).due("now(9)", 0).refused("undo()", -1).due("now(2)", 1);
        x.does("pay(0, 5)").due("undo()", 0).refused("undo()", -1).due("now(1)", 0);
    }

    /** feed(), end() and text() are none of the calls that are undone; undo() is not undone either. */
    static void promise26WhatIsNoAct() {
        Story x = house().does("feed(1, 2, 3, 4, 5)").due("undo()", 2).due("now(10)", 20).does("end(7)");
        x.due("undo()", 1).due("now(10)", 7).due("undo()", 0).refused("undo()", -1).due("now(4)", 0).due("now(10)", 7);
    }
}
