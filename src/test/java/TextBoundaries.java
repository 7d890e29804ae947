/** Promises 1 to 5 at their boundaries: the tape, the TEXT, its FAULTS. */
final class TextBoundaries {
    // A house in which much has happened, so that a text with a FAULT has much to leave as it is.
    private static final String HOUSE = "step 1 0 5; step 4 1 0; hold 2; debtor 90 3; debtor 70 1; debtor 50 0;"
        + "invoice 0 40 1; invoice 1 60 0; invoice 2 30 2;";
    private static final String ACTS = "pass(3) dispute(2) promise(0, 9, 5) plan(1, 2, 7) asks(2, 50) pay(2, 7)";

    private TextBoundaries() {
    }

    private static void fine(String text, int lines) {
        Story.fresh().tells(text, lines, 0);
        Story.told(HOUSE).does(ACTS).tells(text, lines, 0).due("now(0)", 0).due("now(9)", 0);
    }

    private static void faulty(String text, int place, int kind) {
        Story.fresh().tells(text, -1 - place, kind);
        Story.told(HOUSE).does(ACTS).refusesText(text, -1 - place, kind);
    }

    private static String blanks(int count) {
        return " ".repeat(count);
    }

    /** "No STEPS, no DEBTORS, N 1; an empty tape." */
    static void promise01NothingIsThere() {
        Story x = Story.fresh();
        for (int what = 0; what <= 10; what++) {
            x.looks("now(" + what + ")", 0);
        }
        for (int what = 0; what <= 4; what++) {
            x.looks("aged(-1, " + what + ")", 0).looks("aged(0, " + what + ")", -100000000);
        }
        x.looks("fault()", 0).looks("debtor(0, 0)", Call.NO_SUCH).looks("end(0)", true).refused("end(1)", false);
        for (String look : new String[] {"step", "invoice", "promised", "planned", "order", "would", "pay", "settle",
            "asks"}) {
            x.refused(look + "(0, 0)", -1).refused(look + "(0, 1)", -1);
        }
        x.refused("next(0)", -1).refused("bill(0, 1, 0)", -1).refused("dispute(0)", false)
            .refused("promise(0, 1, 0)", -1).refused("plan(0, 2, 1)", -1).refused("ships(0)", -1)
            .refused("cancel(0)", false).refused("undo()", -1).refused("pass(0)", -1);
    }

    /** "an empty tape": it is no TEXT, because 'hold' must come. */
    static void promise01AnEmptyTapeIsNoText() {
        Story.fresh().due("text()", -1).due("fault()", 1).due("now(2)", 0).due("feed(0, 0, 0, 0, 0)", 20);
    }

    /** "NONE, and none come, if it would have more than 640." */
    static void promise02MoreThan640() {
        Story x = Story.fresh();
        for (int i = 1; i <= 31; i++) {
            x.due("feed(0x20202020, 0x20202020, 0x20202020, 0x20202020, 0x20202020)", 20 * i);
        }
        x.due("feed(0x20202020, 0x20202020, 0x20202020, 0x20202020, 0x20202020)", 640);
        x.refused("feed(1, 2, 3, 4, 5)", -1).refused("feed(MIN, MAX, -1, 0, 0)", -1).looks("now(10)", 640);
        x.does("end(621)").refused("feed(1, 2, 3, 4, 5)", -1).looks("now(10)", 621);
        x.does("end(620)").due("feed(1, 2, 3, 4, 5)", 640).refused("feed(1, 2, 3, 4, 5)", -1);
        x.does("end(601)").due("text()", -601).due("now(10)", 0).due("feed(1, 2, 3, 4, 5)", 20);
    }

    /** "none come": not even those for which there would be room. */
    static void promise02NoneComeOfTwenty() {
        Story x = Story.fresh();
        for (int i = 0; i < 31; i++) {
            x.does("feed(0x20202020, 0x20202020, 0x20202020, 0x20202020, 0x20202020)");
        }
        x.does("end(605) feed(0x20202020, 0x20202020, 0x20202020, 0x20202020, 0x20202020)").due("now(10)", 625);
        x.refused("feed(0x686f6c64, 0x20313b20, 0x20202020, 0x20202020, 0x20202020)", -1).looks("now(10)", 625);
    }

    /** "of each number the highest first", numbers below 0 among them. */
    static void promise02TheHighestByteFirst() {
        String head = "feed(0x686f6c64, 0x20313b";
        Story.fresh().does(head + "20, 0x20202020, 0x20202020, 0x20202020)").due("text()", 1);
        Story.fresh().does(head + "ff, 0x20202020, 0x20202020, 0x20202020)").due("text()", -8);
        Story.fresh().does(head + "20, 0xff20200a, 0x20202020, 0x20202020)").due("text()", -9);
        Story.fresh().does(head + "20, 0x20ff2020, 0x20202020, 0x20202020)").due("text()", -10);
        Story.fresh().does(head + "20, 0x2020ff20, 0x20202020, 0x20202020)").due("text()", -11);
        Story.fresh().does(head + "20, 0x202020ff, 0x20202020, 0x20202020)").due("text()", -12);
        Story.fresh().does(head + "20, 0x20202020, 0xff20200a, 0x20202020)").due("text()", -13);
        Story.fresh().does(head + "20, 0x20202020, 0x20202020, 0xff20200a)").due("text()", -17);
        Story.fresh().does(head + "20, 0x20202020, 0x20202020, 0x202020ff)").due("text()", -20);
    }

    /** "false, if it has not so many, or n is below 0": an empty tape. */
    static void promise03EndOfAnEmptyTape() {
        Story.fresh().looks("end(0)", true).refusedWith("end(?)", false, "1", "20", "MAX", "-1", "MIN")
            .due("end(0)", true).due("now(10)", 0);
    }

    /** "false, if it has not so many, or n is below 0": up to as many as it has, and one more. */
    static void promise03EndBeyondTheTape() {
        Story x = Story.fresh().does("feed(0x686f6c64, 0x20313b68, 0x6f6c6420, 0x313b2020, 0x20202020)");
        x.refusedWith("end(?)", false, "21", "22", "40", "MAX", "-1", "-20", "MIN").looks("end(20)", true);
        x.due("end(20)", true).due("now(10)", 20).due("end(19)", true).due("now(10)", 19);
        x.refused("end(20)", false).due("end(8)", true).refused("end(9)", false).due("end(7)", true);
        x.due("now(10)", 7).due("text()", 1);
    }

    /** "its first n bytes alone": what is fed then comes behind them. */
    static void promise03WhatComesBehindTheEnd() {
        Story x = Story.fresh().does("feed(0x686f6c64, 0x78787878, 0x78787878, 0x78787878, 0x78787878) end(4)");
        x.due("feed(0x20313b20, 0x20202020, 0x20202020, 0x20202020, 0x20202020)", 24).due("text()", 1);
        x.does("feed(0x686f6c64, 0x20313b20, 0x20202020, 0x20202020, 0x20202020)").due("end(0)", true);
        x.due("now(10)", 0).due("text()", -1).due("fault()", 1);
    }

    /** "FAULTS ... the end: how many bytes there are": nothing, and nothing but blanks. */
    static void promise04AnEmptyText() {
        faulty("", 0, 1);
        faulty(" ", 1, 1);
        faulty("\n", 1, 1);
        faulty(" \n ", 3, 1);
        faulty(blanks(20), 20, 1);
        faulty(blanks(600), 600, 1);
    }

    /** "the end: how many bytes there are": a TEXT that is cut behind each of its bytes. */
    static void promise04TheEndTooSoon() {
        String text = "step 1 2 3;hold 4;debtor 5 6;invoice 0 7 8;";
        for (int n = 0; n <= text.length(); n++) {
            String cut = text.substring(0, n);
            if (n == 18 || n == 29 || n == 43) {
                fine(cut, n == 18 ? 2 : n == 29 ? 3 : 4);
            } else {
                // A WORD that is cut can't come where it begins; the end can't come where it is.
                int place = n < 4 ? 0 : n > 11 && n < 15 ? 11 : n > 18 && n < 24 ? 18 : n > 29 && n < 36 ? 29 : n;
                faulty(cut, place, 1);
            }
        }
        faulty("hold 1 \n ", 9, 1);
        faulty("step 1 1 1; ", 12, 1);
    }

    /** "A TEXT has at most 600 bytes". */
    static void promise04AtMost600Bytes() {
        fine("hold 1;" + blanks(592), 1);
        fine("hold 1;" + blanks(593), 1);
        fine(blanks(593) + "hold 1;", 1);
        faulty("hold 1;" + blanks(594), 600, 1);
        faulty(blanks(594) + "hold 1;", 600, 1);
        faulty("hold 1;" + blanks(633), 600, 1);
        faulty(blanks(601), 600, 1);
        faulty(blanks(640), 600, 1);
    }

    /** "600, if there are more": what can't come there, or is no TOKEN, is a FAULT at 600 too. */
    static void promise04FrontOf600() {
        faulty("hold 1;" + blanks(592) + "!", 599, 1);
        faulty("hold 1;" + blanks(593) + "!", 600, 1);
        faulty("hold 1;" + blanks(594) + "!", 600, 1);
        faulty("hold 1;" + blanks(592) + ";;", 599, 1);
        faulty("hold 1;" + blanks(593) + ";", 600, 1);
        faulty("hold" + blanks(596) + "0;", 600, 1);
        faulty("hold" + blanks(597), 600, 1);
        faulty("hold 1" + blanks(595), 600, 1);
        faulty("hold 1;debtor 500" + blanks(600), 600, 1);
        faulty("hold 1;debtor 500 1" + blanks(600), 600, 1);
        faulty("hold 1" + blanks(593) + "; ", 600, 1);
        fine("hold 1" + blanks(593) + ";", 1);
        faulty("hold 1" + blanks(594) + ";", 600, 1);
    }

    /** "and no FAULT is ahead". */
    static void promise04FaultAheadOf600() {
        faulty("hold 0;" + blanks(620), 5, 2);
        faulty("hold ;" + blanks(620), 5, 1);
        faulty("step 1 1 1;".repeat(7) + blanks(560), 66, 3);
        faulty("hold" + blanks(595) + "0 ", 599, 2);
        faulty("hold" + blanks(595) + "x ", 599, 1);
    }

    /** "TOKENS that begin ahead of it are read whole". */
    static void promise04TokensAheadOf600AreReadWhole() {
        faulty("hold" + blanks(595) + "1;", 600, 1);
        faulty("hold" + blanks(595) + "0001;", 600, 1);
        faulty("hold" + blanks(595) + "10;", 599, 2);
        faulty("hold" + blanks(595) + "0010;", 599, 2);
        faulty("hold" + blanks(595) + "00010;", 599, 1);
        faulty("hold" + blanks(595) + "1a;", 599, 1);
        faulty("hold 1;" + blanks(592) + "debtor 1 1;", 600, 1);
        faulty("hold 1;" + blanks(592) + "debtors 1 1;", 599, 1);
        faulty("hold 1;" + blanks(592) + "debto", 599, 1);
        faulty("hold 1;" + blanks(592) + "d", 599, 1);
        faulty("step 1 1 1;".repeat(6) + blanks(533) + "step 1 1 1;", 599, 3);
        faulty("step 1 1 1;".repeat(6) + blanks(534) + "step 1 1 1;", 600, 1);
    }

    /** "NUMBERS: 1 to 4 digits". */
    static void promise04NumbersHave1To4Digits() {
        fine("hold 1;", 1);
        fine("hold 01;", 1);
        fine("hold 001;", 1);
        fine("hold 0001;", 1);
        faulty("hold 00001;", 5, 1);
        faulty("hold 0000000001;", 5, 1);
        faulty("hold 4294967297;", 5, 1);
        fine("hold 1;debtor 9999 99;", 2);
        faulty("hold 1;debtor 10000 99;", 14, 1);
        faulty("hold ;", 5, 1);
        faulty("hold -1;", 5, 1);
    }

    /** "A WORD, NUMBER goes on as long as small letters and digits do". */
    static void promise04WordsAndNumbersGoOn() {
        faulty("hold1;", 0, 1);
        faulty("1hold 1;", 0, 1);
        faulty("holds 1;", 0, 1);
        faulty("hol 1;", 0, 1);
        faulty("hold 1a;", 5, 1);
        faulty("hold a1;", 5, 1);
        faulty("ho ld 1;", 0, 1);
        faulty("Hold 1;", 0, 1);
        faulty("hold 1;debtor 1 2invoice 0 1 1;", 16, 1);
        faulty("hold 1;debtor1 2;", 7, 1);
        fine("hold 1;debtor 1 2;", 2);
        fine("\nhold\n1\n;\ndebtor\n1\n2\n;\n", 2);
    }

    /** 'step', 'hold', 'debtor', 'invoice': a WORD of which one letter is another one can't come. */
    static void promise04WordsToTheLetter() {
        String[] lines = {"step 1 1 1;", "hold 1;", "debtor 1 1;", "invoice 0 1 1;"};
        String text = String.join("", lines);
        for (String line : lines) {
            int from = text.indexOf(line);
            for (int i = from; i < from + line.indexOf(' '); i++) {
                faulty(text.substring(0, i) + 'z' + text.substring(i + 1), from, 1);
            }
        }
        fine(text, 4);
    }

    /** "with blanks (32, 10) between them or not"; "what is not as told is no TOKEN": each byte in each place. */
    static void promise04EachByte() {
        for (int b = 0; b <= 255; b++) {
            char sign = (char) b;
            boolean isBlank = b == 32 || b == 10;
            boolean isDigit = sign >= '0' && sign <= '9';
            boolean isLetter = sign >= 'a' && sign <= 'z';
            Story.fresh().tells("hold 1;" + sign, isBlank ? 1 : -8, isBlank ? 0 : 1);
            Story.fresh().tells("hold" + sign + "1;", isBlank ? 1 : isDigit || isLetter ? -1 : -5, isBlank ? 0 : 1);
            int atNumber = isBlank ? 1 : isDigit || isLetter ? -6 : sign == ';' ? -8 : -7;
            Story.fresh().tells("hold 1" + sign + ";", atNumber, isBlank ? 0 : isDigit ? 2 : 1);
        }
    }

    /** A NUMBER's range: the text with the least and the greatest, and with what lies beyond them. */
    private static void range(String text, String look, int least, int most) {
        int place = text.indexOf('?');
        int lines = (int) text.chars().filter(sign -> sign == ';').count();
        for (int n : new int[] {least, least + 1, most - 1, most}) {
            fine(text.replace("?", "" + n), lines);
            Story.told(text.replace("?", "" + n)).looks(look, n);
        }
        if (least > 0) {
            faulty(text.replace("?", "0"), place, 2);
            faulty(text.replace("?", "0000"), place, 2);
        }
        faulty(text.replace("?", "" + (most + 1)), place, most == 9999 ? 1 : 2);
        if (most < 9999) {
            faulty(text.replace("?", "9999"), place, 2);
        }
        faulty(text.replace("?", "99999"), place, 1);
    }

    /** "FROM 1 to 99". */
    static void promise04From1To99() {
        range("step ? 0 0;hold 1;", "step(0, 0)", 1, 99);
    }

    /** "GAP 0 to 99". */
    static void promise04Gap0To99() {
        range("step 1 ? 0;hold 1;", "step(0, 1)", 0, 99);
    }

    /** "FEE 0 to 999". */
    static void promise04Fee0To999() {
        range("step 1 0 ?;hold 1;", "step(0, 2)", 0, 999);
    }

    /** "N 1 to 9"; what N is shows in what STAGE holds an ORDER. */
    static void promise04N1To9() {
        fine("hold 1;", 1);
        fine("hold 9;", 1);
        faulty("hold 0;", 5, 2);
        faulty("hold 10;", 5, 2);
        for (int n = 1; n <= 9; n++) {
            Story x = Story.told("step 1 0 0;".repeat(6) + "hold " + n + ";debtor 9999 0;invoice 0 1 0;");
            for (int stage = 0; stage <= 6; stage++) {
                x.due("debtor(0, 5)", stage).does("asks(0, 1)").due("order(" + stage + ", 2)", stage < n ? 1 : 0);
                x.does("pass(1)");
            }
        }
    }

    /** "LIMIT 0 to 9999". */
    static void promise04Limit0To9999() {
        range("hold 1;debtor ? 0;", "debtor(0, 0)", 0, 9999);
    }

    /** "TERMS 0 to 99". */
    static void promise04Terms0To99() {
        range("hold 1;debtor 0 ?;", "debtor(0, 1)", 0, 99);
    }

    /** "SUM 1 to 9999". */
    static void promise04Sum1To9999() {
        range("hold 1;debtor 0 0;invoice 0 ? 0;", "invoice(0, 1)", 1, 9999);
    }

    /** "DUE 0 to 99". */
    static void promise04Due0To99() {
        range("hold 1;debtor 0 0;invoice 0 1 ?;", "invoice(0, 3)", 0, 99);
    }

    /** "a DEBTOR that is told". */
    static void promise04ADebtorThatIsTold() {
        faulty("hold 1;invoice 0 1 1;", 15, 2);
        fine("hold 1;debtor 1 1;invoice 0 1 1;", 3);
        faulty("hold 1;debtor 1 1;invoice 1 1 1;", 26, 2);
        String six = "hold 1;" + "debtor 1 1;".repeat(6);
        fine(six + "invoice 5 1 1;", 8);
        Story.told(six + "invoice 5 1 1;").looks("invoice(0, 0)", 5);
        faulty(six + "invoice 6 1 1;", 81, 2);
        faulty(six + "invoice 9999 1 1;", 81, 2);
        faulty(six + "invoice 00000 1 1;", 81, 1);
    }

    /** "6 STEPS at most, numbered from 0". */
    static void promise04At6Steps() {
        fine("hold 1;", 1);
        fine("step 1 1 1;".repeat(5) + "hold 1;", 6);
        fine("step 1 1 1;".repeat(6) + "hold 1;", 7);
        faulty("step 1 1 1;".repeat(7) + "hold 1;", 66, 3);
        faulty("step 1 1 1;".repeat(6) + "step", 66, 3);
        faulty("step 1 1 1;".repeat(6) + "steps", 66, 1);
        Story x = Story.told("step 1 1 1;step 2 2 2;step 3 3 3;step 4 4 4;step 5 5 5;step 6 6 6;hold 1;");
        x.looks("now(1)", 6).looks("step(0, 0)", 1).looks("step(5, 2)", 6).refused("step(6, 0)", -1);
    }

    /** "'hold' N ;" comes once. */
    static void promise04OneHold() {
        faulty("step 1 1 1;", 11, 1);
        fine("step 1 1 1;hold 1;", 2);
        faulty("hold 1;hold 1;", 7, 1);
        faulty("hold 1;debtor 1 1;hold 1;", 18, 1);
        faulty("hold 1;debtor 1 1;invoice 0 1 1;hold 1;", 32, 1);
    }

    /** "6 DEBTORS at most, numbered from 0". */
    static void promise04At6Debtors() {
        fine("hold 1;" + "debtor 1 1;".repeat(5), 6);
        fine("hold 1;" + "debtor 1 1;".repeat(6), 7);
        faulty("hold 1;" + "debtor 1 1;".repeat(7), 73, 3);
        faulty("hold 1;" + "debtor 1 1;".repeat(6) + "debtor", 73, 3);
        Story x = Story.told("hold 1;debtor 1 2;debtor 3 4;debtor 5 6;debtor 7 8;debtor 9 10;debtor 11 12;");
        x.looks("now(2)", 6).looks("debtor(0, 0)", 1).looks("debtor(5, 1)", 12).refused("debtor(6, 0)", Call.NO_SUCH);
    }

    /** "12 'invoice' LINES at most, numbered from 0". */
    static void promise04At12Invoices() {
        String head = "hold 1;debtor 1 1;";
        fine(head, 2);
        fine(head + "invoice 0 1 1;".repeat(11), 13);
        fine(head + "invoice 0 1 1;".repeat(12), 14);
        faulty(head + "invoice 0 1 1;".repeat(13), 186, 3);
        faulty(head + "invoice 0 1 1;".repeat(12) + "invoice 9", 186, 3);
        Story x = Story.told(head + "invoice 0 7 9;" + "invoice 0 1 1;".repeat(10) + "invoice 0 8 6;");
        x.looks("now(3)", 12).looks("invoice(0, 1)", 7).looks("invoice(11, 3)", 6).refused("invoice(12, 0)", -1);
    }

    /** "{ 'step' .. } 'hold' .. { 'debtor' .. } { 'invoice' .. }": each WORD behind each LINE. */
    static void promise04WhatCanComeBehindWhat() {
        String[] lines = {"step 1 1 1;", "hold 1;", "debtor 1 1;", "invoice 0 1 1;"};
        String[] heads = {"", lines[0], lines[0] + lines[1], lines[1] + lines[2], lines[1] + lines[2] + lines[3]};
        String[] canCome = {"step hold", "step hold", "debtor", "debtor invoice", "invoice"};
        for (int h = 0; h < heads.length; h++) {
            for (String line : lines) {
                String word = line.substring(0, line.indexOf(' '));
                if (canCome[h].contains(word)) {
                    String text = heads[h] + line + (word.equals("step") ? lines[1] : "");
                    fine(text, (int) text.chars().filter(sign -> sign == ';').count());
                } else if (h == 2 && word.equals("invoice")) {
                    faulty(heads[h] + line, heads[h].length() + 8, 2);
                } else {
                    faulty(heads[h] + line, heads[h].length(), 1);
                }
            }
        }
    }

    /** "FAULTS, the first along the text". */
    static void promise04TheFirstFault() {
        faulty("hold 0;!", 5, 2);
        faulty("hold !0", 5, 1);
        faulty("step 0 100 1000;", 5, 2);
        faulty("step 1 100 1000;", 7, 2);
        faulty("step 1 99 1000;", 10, 2);
        faulty("step 1 1 1;".repeat(6) + "step 0 0 0;", 66, 3);
        faulty("step 1 1 1;".repeat(5) + "step 0 0 0;step 1 1 1;", 60, 2);
    }

    /** "of one TOKEN the one that stands first in this list". */
    static void promise04OfOneTokenTheFirst() {
        faulty("hold 00010;", 5, 1);
        faulty("hold 1 0;", 7, 1);
        faulty("hold 1;0", 7, 1);
        faulty("hold 1;hold 1;", 7, 1);
        faulty("step 1 1 1;".repeat(6) + "hold 1;step 1 1 1;", 73, 1);
        faulty("hold 1;" + "debtor 1 1;".repeat(6) + "invoice 0 1 1;debtor 1 1;", 87, 1);
        faulty("hold 1;debtor 1 1;" + "invoice 0 1 1;".repeat(12) + "debtor 1 1;", 186, 1);
    }

    /** "The tape (empty then, even with a FAULT)": the next text() finds nothing. */
    static void promise04TheTapeIsEmptyThen() {
        Story x = Story.fresh().tells("hold 1;debtor 5 6;", 2, 0).due("text()", -1).due("fault()", 1);
        x.due("now(2)", 1).tells("hold 0;", -6, 2).due("text()", -1).due("fault()", 1).due("now(2)", 1);
        x.due("feed(0x686f6c64, 0x20313b20, 0x20202020, 0x20202020, 0x20202020)", 20).due("text()", 1);
        x.due("now(2)", 0);
    }

    /** "A new TEXT: DAY 0, nothing can be undone": nothing is left of what was. */
    static void promise04ANewTextBeginsAnew() {
        for (String text : new String[] {HOUSE, "hold 1;", "step 1 0 0;hold 1;debtor 60 2;invoice 0 50 1;",
            "hold 9;" + "debtor 5 5;".repeat(6) + "invoice 5 5 5;".repeat(12)}) {
            Story x = Story.told(HOUSE).does(ACTS).does("pass(20) pay(2, 99) ships(0) would(2, 5)").due("next(2)", -2);
            int lines = (int) text.chars().filter(sign -> sign == ';').count();
            x.tells(text, lines, 0).isLike(Story.told(text));
            x.due("now(0)", 0).due("now(4)", 0).due("now(8)", 0).due("now(9)", 0).refused("undo()", -1);
        }
    }

    /** "0 without one and ahead of any." */
    static void promise05FaultIsOfTheLatestText() {
        Story x = Story.fresh().looks("fault()", 0);
        x.does("feed(1, 2, 3, 4, 5) end(3)").looks("fault()", 0).due("text()", -1).looks("fault()", 1);
        x.tells("hold 0;", -6, 2).does("pass(1) undo() feed(1, 2, 3, 4, 5) end(0)").looks("fault()", 2);
        x.refused("end(1)", false).refused("pay(0, 1)", -1).looks("fault()", 2);
        x.tells("step 1 1 1;".repeat(7), -67, 3).looks("fault()", 3).tells("hold 1;", 1, 0).looks("fault()", 0);
        x.due("text()", -1).looks("fault()", 1);
    }
}
