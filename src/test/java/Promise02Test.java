/** Promise 2: see. */
public final class Promise02Test extends Promises {
    public static void main(String[] args) {
        run(Promise02Test.class);
    }

    private static void text(Due due, String text, int want) {
        DunceSee x = new DunceSee();
        due.is("see of \"" + text + "\"", see(x, 0, text), want);
        due.is("fault() behind \"" + text + "\"", x.fault(), 0);
        due.is("PUPILS of \"" + text + "\"", x.many(0), Math.max(want, 0));
    }

    // ---- the text

    @Holds(promise = 2, says = "A SEE by a TEXT: c, a digit 0 .. 9 (DOUBT)")
    static void beginsWithCAndDoubt(Due due) {
        text(due, "b42,3;p45", -100);
        text(due, "d42,3;p45", -100);
        text(due, "C42,3;p45", -100);
        text(due, "442,3;p45", -100);
        text(due, "c/2,3;p45", -101);
        text(due, "c:2,3;p45", -101);
        text(due, "c,2,3;p45", -101);
        for (int doubt = 0; doubt <= 9; doubt++) {
            due.is("DOUBT", told("c" + doubt + "2,3;p45").many(2), doubt);
        }
    }

    @Holds(promise = 2, says = "a digit 1 .. 4 (ROOM)")
    static void roomIsOneToFour(Due due) {
        text(due, "c40,3;p45", -102);
        text(due, "c45,3;p45", -102);
        text(due, "c49,3;p45", -102);
        text(due, "c4,3;p45", -102);
        for (int room = 1; room <= 4; room++) {
            due.is("ROOM", told("c4" + room + ",3;p45").many(3), room);
        }
    }

    @Holds(promise = 2, says = "a comma")
    static void aCommaIsBeforeTheDays(Due due) {
        text(due, "c42+3;p45", -103);
        text(due, "c42-3;p45", -103);
        text(due, "c42;3;p45", -103);
        text(due, "c423;p45", -103);
        text(due, "c42,,3;p45", -104);
        text(due, "c42,3;p45", 1);
    }

    @Holds(promise = 2, says = "1 to 5 digits 0 .. 9 (HARD of the questions of DAYS, numbered from 0 on)")
    static void oneToFiveDays(Due due) {
        text(due, "c42,;p45", -104);
        text(due, "c42,/;p45", -104);
        text(due, "c42,:;p45", -104);
        text(due, "c42,0/;p45", -105);
        text(due, "c42,0:;p45", -105);
        String digits = "09876";
        for (int days = 1; days <= 5; days++) {
            DunceSee x = told("c42," + digits.substring(0, days) + ";p45");
            due.is("DAYS", x.many(1), days);
            for (int d = 0; d < days; d++) {
                due.is("HARD of " + d, x.hard(d), digits.charAt(d) - '0');
            }
            due.is("no more DAYS", x.hard(days), UNKNOWN);
        }
    }

    @Holds(promise = 2, says = "then 1 to 4 PUPILS, numbered from 0 on")
    static void oneToFourPupils(Due due) {
        text(due, "c42,3", -105);
        text(due, "c42,3;", -106);
        String pupils = ";p19;d28;u37;p46";
        for (int n = 1; n <= 4; n++) {
            DunceSee x = new DunceSee();
            due.is("PUPILS", see(x, 0, "c42,3" + pupils.substring(0, 4 * n)), n);
            due.is("PUPILS", x.many(0), n);
            for (int p = 0; p < n; p++) {
                due.is("WIT of " + p, x.ofPupil(p, 1), p + 1);
            }
            due.is("no more PUPILS", x.ofPupil(n, 1), UNKNOWN);
        }
    }

    @Holds(promise = 2, says = "each: ; and a letter, a digit 0 .. 9 (WIT), a digit 0 .. 9 (PATIENCE)")
    static void eachPupilIsALetterAndTwoDigits(Due due) {
        text(due, "c42,3:p45", -105);
        text(due, "c42,3p45", -105);
        text(due, "c42,3;c45", -106);
        text(due, "c42,3;P45", -106);
        text(due, "c42,3;q45", -106);
        text(due, "c42,3;45", -106);
        text(due, "c42,3;;p45", -106);
        text(due, "c42,3;p/5", -107);
        text(due, "c42,3;p:5", -107);
        text(due, "c42,3;p4/", -108);
        text(due, "c42,3;p4:", -108);
        text(due, "c42,3;p4;p45", -108);
        text(due, "c42,3;p456", -109);
        text(due, "c42,3;p45p45", -109);
        text(due, "c42,3;p45;p45;x45", -114);
        for (int v = 0; v <= 9; v++) {
            DunceSee x = told("c42,3;p" + v + (9 - v));
            due.is("WIT", x.ofPupil(0, 1), v);
            due.is("PATIENCE", x.ofPupil(0, 2), 9 - v);
        }
    }

    @Holds(promise = 2, says = "FIRST FAULT: the place (from 0 on) of the first code with which no TEXT goes on")
    static void theFirstWrongCode(Due due) {
        String whole = "c42,36159;p45;d27;u68;p53";
        for (int n = 0; n <= whole.length(); n++) {
            text(due, whole.substring(0, n) + "x", -100 - n);
            text(due, whole.substring(0, n) + "x" + whole.substring(n), -100 - n);
            text(due, whole.substring(0, n) + "xx", -100 - n);
        }
        text(due, "x42,x", -100);
        text(due, "cx0", -101);
    }

    @Holds(promise = 2, says = "the first code with which no TEXT goes on")
    static void everyCodeAtEveryPlace(Due due) {
        String whole = "c42,36159;p45;d27;u68;p53";
        String digits = "0123456789";
        String more = digits + ";";
        String[] goesOn = {"c", digits, "1234", ",", digits, more, more, more, more,
            ";", "pdu", digits, digits, ";", "pdu", digits, digits,
            ";", "pdu", digits, digits, ";", "pdu", digits, digits, ""};
        for (int place = 0; place < goesOn.length; place++) {
            for (int from = -130; from < 260; from += 195) {
                DunceSee x = new DunceSee();
                row(x, 0, 1, codes(whole + "."));
                for (int code = from; code < from + 195; code++) {
                    x.put(0, place, code);
                    boolean fits = code > 0 && goesOn[place].indexOf(code) >= 0;
                    boolean isWhole = fits && place >= 12 && place % 4 == 0;
                    due.is("code " + code + " at " + place, x.see(0, 1, 0, place + 1),
                        isWhole ? place / 4 - 2 : fits ? -101 - place : -100 - place);
                }
            }
        }
    }

    @Holds(promise = 2, says = "the digit of a sixth DAY")
    static void aSixthDay(Due due) {
        text(due, "c41,12345;p45", 1);
        text(due, "c41,123456;p45", -109);
        text(due, "c41,123456", -109);
        text(due, "c41,1234567;p45", -109);
        text(due, "c41,000000;p45", -109);
    }

    @Holds(promise = 2, says = "the ; of a fifth PUPIL")
    static void aFifthPupil(Due due) {
        text(due, "c41,1;p45;p45;p45;p45", 4);
        text(due, "c41,1;p45;p45;p45;p45;", -121);
        text(due, "c41,1;p45;p45;p45;p45;p45", -121);
        text(due, "c41,12345;p45;p45;p45;p45;p45", -125);
    }

    @Holds(promise = 2, says = "how many codes there are, if it just ends too soon")
    static void endsTooSoon(Due due) {
        String whole = "c42,36159;p45;d27;u68;p53";
        for (int n = 0; n < whole.length(); n++) {
            boolean isWhole = n == 13 || n == 17 || n == 21;
            text(due, whole.substring(0, n), isWhole ? (n - 9) / 4 : -100 - n);
        }
        text(due, "", -100);
        text(due, "c41,1;p45;p45;p45;", -118);
    }

    @Holds(promise = 2, says = "Codes: c 99, p 112, d 100, u 117, ; 59, comma 44, digits 48 .. 57.")
    static void codesByNumber(Due due) {
        int[] text = {99, 48, 49, 44, 57, 59, 112, 48, 57, 59, 100, 49, 48, 59, 117, 50, 53};
        DunceSee x = new DunceSee();
        row(x, 0, 2, text);
        due.is("see", x.see(0, 2, 0, 17), 3);
        int[] kinds = {0, 1, 2};
        for (int p = 0; p < 3; p++) {
            due.is("kind of " + p, x.ofPupil(p, 0), kinds[p]);
            due.is("WIT of " + p, x.ofPupil(p, 1), p);
        }
        for (int i = 0; i < text.length; i++) {
            for (int far : new int[] {256, 65536, -256, 128, LEAST}) {
                x.put(0, i, text[i] + far);
                due.is("code " + i + " and " + far, x.see(0, 2, 0, 17), -100 - i);
            }
            x.put(0, i, text[i]);
        }
    }

    @Holds(promise = 2, says = "A TEXT that is taken makes all anew: no READINGS.")
    static void aTextMakesAllAnew(Due due) {
        DunceSee x = told(FOUR);
        x.reading(0, 2, 5);
        x.reading(1, 2, 5);
        x.ask(0, 9);
        x.teach(0, 9);
        x.doubt(9);
        x.build(4);
        due.is("another text", see(x, 1, "c11,9;u09"), 1);
        int[] want = {1, 1, 1, 1, 0};
        for (int what = 0; what <= 4; what++) {
            due.is("many(" + what + ")", x.many(what), want[what]);
        }
        due.is("a PUPIL that was", x.ofPupil(1, 0), UNKNOWN);
        due.is("a DAY that was", x.hard(1), UNKNOWN);
        due.is("kind", x.ofPupil(0, 0), 2);
        due.is("the first of new READINGS", x.reading(0, 0, 0), 0);
        due.is("of none that were before", x.wits(0), 1023);
        due.is("the same text once more", x.see(1, 0, 0, 9), 1);
        due.is("READINGS", x.many(4), 0);
        due.is("a text of more", see(x, 1, "c11,00000;p00;p00;p00;p00"), 4);
        due.is("nobody would", x.bishop(), NONE);
    }

    // The document does not say so in as many words: of TRACE and SHEETS it tells only the beginning.
    @Holds(promise = 2, says = "A TEXT that is taken makes all anew")
    static void traceAndSheetsAreNoPartOfASee(Due due) {
        DunceSee x = told(FOUR);
        row(x, 3, 1, 7, 8);
        x.tell(0);
        due.is("another text", see(x, 1, "c11,9;u09"), 1);
        due.is("trace()", x.trace(), 1);
        due.is("the text that was", x.cell(0, 0, 0), 99);
        due.is("another SHEET", x.cell(3, 1, 1), 8);
        due.is("its own text", x.cell(1, 0, 0), 99);
    }

    // ---- the call

    @Holds(promise = 2, says = "A SEE by a TEXT of n cells of a SHEET from i on, taken as a row of a LANE: how many PUPILS")
    static void cellsOfAnySheetAndLane(Due due) {
        for (int k = 0; k < 4; k++) {
            for (int lane = 0; lane < 3; lane++) {
                DunceSee x = new DunceSee();
                row(x, k, lane, codes("..c21,7;d38;p11."));
                due.is("one PUPIL", x.see(k, lane, 2, 9), 1);
                due.is("two PUPILS", x.see(k, lane, 2, 13), 2);
                due.is("a cell more", x.see(k, lane, 2, 14), -113);
                due.is("a cell ahead", x.see(k, lane, 1, 10), -100);
                due.is("places are told from i on", x.see(k, lane, 2, 10), -110);
            }
        }
    }

    @Holds(promise = 2, says = "A SEE by a TEXT of n cells of a SHEET from i on")
    static void atBothEndsOfAFullRow(Due due) {
        String longest = "c42,36159;p45;d27;u68;p53";
        DunceSee x = new DunceSee();
        x.sheet(0, 0, 60);
        for (int i = 0; i < longest.length(); i++) {
            x.put(0, i, longest.charAt(i));
            x.put(0, 35 + i, longest.charAt(i));
        }
        due.is("the first cells", x.see(0, 0, 0, 25), 4);
        due.is("the last cells", x.see(0, 0, 35, 25), 4);
        due.is("all cells", x.see(0, 0, 0, 60), -125);
        fails(due, x, "one cell too many", x.see(0, 0, 35, 26), INDEX);
    }

    @Holds(promise = 2, says = "-100 less the FIRST FAULT")
    static void aHundredLess(Due due) {
        text(due, "", -100);
        text(due, "c", -101);
        text(due, "c42,36159;p45;d27;u68;p5", -124);
        text(due, "c42,36159;p45;d27;u68;p53;", -125);
    }

    @Holds(promise = 2, says = "UNKNOWN")
    static void noSuchSheet(Due due) {
        DunceSee x = told(TWO);
        for (int k : not(0, 3)) {
            namesFaults(due, x, "see(" + k + ", ..)", () -> x.see(k, 0, 0, 14), UNKNOWN);
        }
    }

    @Holds(promise = 2, says = "OUTSIDE: lane")
    static void noSuchLane(Due due) {
        DunceSee x = told(TWO);
        for (int lane : not(0, 2)) {
            namesFaults(due, x, "see(0, " + lane + ", ..)", () -> x.see(0, lane, 0, 14), OUTSIDE);
        }
    }

    @Holds(promise = 2, says = "CAST (nothing is no CAST)")
    static void aRowOfAnotherLane(Due due) {
        for (int is = 0; is < 3; is++) {
            DunceSee x = new DunceSee();
            row(x, 0, is, codes(TWO));
            for (int lane = 0; lane < 3; lane++) {
                if (lane != is) {
                    fails(due, x, "lane " + is + " as " + lane, x.see(0, lane, 0, 14), CAST);
                }
                fails(due, x, "nothing as " + lane, x.see(1, lane, 0, 14), NULL);
            }
        }
        DunceSee empty = new DunceSee();
        empty.sheet(0, 1, 0);
        fails(due, empty, "a row of 0 cells", empty.see(0, 0, 0, 0), CAST);
    }

    @Holds(promise = 2, says = "NULL")
    static void ofNothing(Due due) {
        DunceSee x = told(TWO);
        fails(due, x, "see of nothing", x.see(1, 0, 0, 14), NULL);
        fails(due, x, "see of no cells of nothing", x.see(1, 0, 0, 0), NULL);
        x.lose(0);
        fails(due, x, "see of what is lost", x.see(0, 0, 0, 14), NULL);
        x.sheet(0, 0, 0);
        due.is("a row of 0 cells is not nothing", x.see(0, 0, 0, 0), -100);
    }

    @Holds(promise = 2, says = "SIZE: n is below 0")
    static void aLengthBelowZero(Due due) {
        DunceSee x = told(TWO);
        fails(due, x, "n -1", x.see(0, 0, 0, -1), SIZE);
        fails(due, x, "n of the least", x.see(0, 0, 0, LEAST), SIZE);
        fails(due, x, "n -1 at the end", x.see(0, 0, 14, -1), SIZE);
        due.is("n 0", x.see(0, 0, 0, 0), -100);
    }

    @Holds(promise = 2, says = "INDEX: not all cells are there")
    static void cellsThatAreNotThere(Due due) {
        DunceSee x = told(TWO);
        fails(due, x, "a cell too many", x.see(0, 0, 0, 15), INDEX);
        fails(due, x, "from -1 on", x.see(0, 0, -1, 14), INDEX);
        fails(due, x, "from 1 on", x.see(0, 0, 1, 14), INDEX);
        fails(due, x, "at the end", x.see(0, 0, 14, 1), INDEX);
        fails(due, x, "n of the most", x.see(0, 0, 0, GREATEST), INDEX);
        fails(due, x, "a sum that wraps", x.see(0, 0, 1, GREATEST), INDEX);
        fails(due, x, "a sum that wraps", x.see(0, 0, GREATEST, 1), INDEX);
        fails(due, x, "a sum that wraps", x.see(0, 0, GREATEST, GREATEST), INDEX);
        fails(due, x, "i of the least", x.see(0, 0, LEAST, GREATEST), INDEX);
        due.is("all of them", x.see(0, 0, 0, 14), 2);
    }

    @Holds(promise = 2, says = "(of cells from i on also where i is not 0 .. how many there are, if none of them is taken, too)")
    static void noneOfTheCells(Due due) {
        DunceSee x = told(TWO);
        fails(due, x, "none from -1 on", x.see(0, 0, -1, 0), INDEX);
        fails(due, x, "none behind the end", x.see(0, 0, 15, 0), INDEX);
        fails(due, x, "none far off", x.see(0, 0, GREATEST, 0), INDEX);
        due.is("none at the beginning", x.see(0, 0, 0, 0), -100);
        due.is("none at the end", x.see(0, 0, 14, 0), -100);
        due.is("fault()", x.fault(), 0);
    }

    @Holds(promise = 2, says = "INDEX: not all cells are there; -100 less it.")
    static void aFirstFaultIsLast(Due due) {
        DunceSee x = new DunceSee();
        row(x, 0, 0, codes("x"));
        fails(due, x, "a wrong text of another lane", x.see(0, 1, 0, 1), CAST);
        fails(due, x, "a wrong text of cells not there", x.see(0, 0, 0, 2), INDEX);
        namesFaults(due, x, "a wrong text", () -> x.see(0, 0, 0, 1), -100);
    }

    // ---- what is so of all refusals and faults

    @Holds(promise = 2, says = "REFUSALS, in the order in which a call's line tells them")
    static void refusalsInOrder(Due due) {
        DunceSee x = told(TWO);
        due.is("SHEET and lane", x.see(4, 3, -1, -1), UNKNOWN);
        due.is("SHEET and n", x.see(-1, 0, 0, -1), UNKNOWN);
        due.is("lane, and nothing", x.see(1, 3, -1, -1), OUTSIDE);
        due.is("lane, and n", x.see(0, -1, 0, -1), OUTSIDE);
    }

    @Holds(promise = 2, says = "FAULTS CAST (nothing is no CAST), NULL, SIZE: n is below 0, INDEX: not all cells are there")
    static void faultsInOrder(Due due) {
        DunceSee x = told(TWO);
        fails(due, x, "CAST, SIZE, INDEX", x.see(0, 1, -1, -1), CAST);
        fails(due, x, "CAST, INDEX", x.see(0, 2, 0, 99), CAST);
        fails(due, x, "NULL, SIZE, INDEX", x.see(1, 1, -1, -1), NULL);
        fails(due, x, "NULL, INDEX", x.see(1, 1, 9, 9), NULL);
        fails(due, x, "SIZE, INDEX", x.see(0, 0, -1, -1), SIZE);
        fails(due, x, "SIZE, INDEX", x.see(0, 0, 99, LEAST), SIZE);
    }

    @Holds(promise = 2, says = "they change nothing (but fault(), of a call that names FAULTS)")
    static void aTextRefusedChangesNothing(Due due) {
        String[] texts = {"", "c", "c9", "c91,77777", "c91,7;x", "c91,7;u1x", "c91,7;u11;"};
        for (String text : texts) {
            DunceSee x = told(TWO);
            x.reading(0, 2, 5);
            x.tell(1);
            row(x, 1, 0, codes(text));
            changesNothing(due, x, () -> due.holds(text, x.see(1, 0, 0, text.length()) <= -100));
        }
    }

    @Holds(promise = 2, says = "it answers -10 less it (LOST, where a long is answered, as for refusals) and changes nothing")
    static void aFaultChangesNothing(Due due) {
        DunceSee x = told(FOUR);
        x.reading(1, 2, 5);
        x.tell(1);
        row(x, 1, 0, codes("c91,7;u11;u11"));
        changesNothing(due, x, () -> {
            fails(due, x, "CAST", x.see(1, 1, 0, 9), CAST);
            fails(due, x, "NULL", x.see(2, 0, 0, 9), NULL);
            fails(due, x, "SIZE", x.see(1, 0, 0, -9), SIZE);
            fails(due, x, "INDEX", x.see(1, 0, 0, 14), INDEX);
            namesFaults(due, x, "UNKNOWN", () -> x.see(4, 0, 0, 9), UNKNOWN);
            namesFaults(due, x, "OUTSIDE", () -> x.see(1, 3, 0, 9), OUTSIDE);
        });
    }
}
