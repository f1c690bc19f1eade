/** Promise 12: plan. */
public final class Promise12Test extends Promises {
    public static void main(String[] args) {
        run(Promise12Test.class);
    }

    // ---- what a plan answers

    @Holds(promise = 12, says = "A PUPIL may PRETEND on a set of DAYS.")
    static void pretendingByDays(Due due) {
        DunceSee x = told("c94,55555;p65");
        for (int set = 0; set < 32; set++) {
            for (int d = 0; d < 5; d++) {
                due.is("set " + set + ", DAY " + d, plan(x, 20 + d, set), set >> d & 1);
            }
            if (set % 16 == 15) {
                x = told("c94,55555;p65");
            }
        }
    }

    @Holds(promise = 12, says = "A PLAN told: for each PUPIL such a set.")
    static void eachPupilHasASet(Due due) {
        DunceSee x = told("c94,5555;p65;p65;p65;p65");
        int[] want = {1, 2, 4, 8};
        for (int d = 0; d < 4; d++) {
            due.is("DAY " + d, plan(x, 20 + d, 1, 2, 4, 8), want[d]);
            due.is("DAY " + d, plan(x, 20 + d, 15 - 1, 15 - 2, 15 - 4, 15 - 8), 15 - want[d]);
        }
    }

    @Holds(promise = 12, says = "A PLAN of n such cells")
    static void cellsOfAnySheetAndLane(Due due) {
        for (int lane = 0; lane < 3; lane++) {
            DunceSee x = told("c92,55;p65;p55");
            for (int k = 0; k < 4; k++) {
                row(x, k, lane, -1, 2, 1, 0, -1);
                due.is("from 1 on, DAY 0", x.plan(k, lane, 1, 2, 20), 2);
                due.is("from 1 on, DAY 1", x.plan(k, lane, 1, 2, 21), 1);
                due.is("from 2 on, DAY 0", x.plan(k, lane, 2, 2, 20), 1);
                due.is("from 2 on, DAY 1", x.plan(k, lane, 2, 2, 21), 0);
            }
        }
        DunceSee full = told("c92,55;p65;p55");
        full.sheet(1, 0, 60);
        full.put(1, 58, 3);
        due.is("the last cells of a full row", full.plan(1, 0, 58, 2, 20), 1);
        due.is("the first cells of a full row", full.plan(1, 0, 0, 2, 20), 0);
    }

    @Holds(promise = 12, says = "A PLAN of n such cells: BISHOP (what 0; NONE)")
    static void bishopOfAPlan(Due due) {
        DunceSee x = told("c34,5;p75;d86;u48");
        due.is("who PRETENDS is BISHOP", plan(x, 0, 1, 0, 0), 0);
        due.is("who is doubted is not", plan(x, 0, 0, 1, 0), 2);
        due.is("nobody PRETENDS", plan(x, 0, 0, 0, 0), 2);
        due.is("of several the least", plan(told("c94,5;p61;p65;p65"), 0, 1, 1, 1), 1);
        due.is("nobody stands", plan(told("c31,0;p91;p91"), 0, 1, 1), NONE);
        due.is("all for 0 HOURS", plan(told("c94,5;p60;d61;u61"), 0, 1, 1, 1), NONE);
        due.is("the plan is not kept", x.bishop(), 2);
    }

    @Holds(promise = 12, says = "the first PUPIL who is not at REST (1; NONE)")
    static void theFirstNotAtRest(Due due) {
        DunceSee x = told("c94,55;p65;p65;p65;p65");
        due.is("all", plan(x, 1, 0, 0, 0, 0), 0);
        due.is("all but 0", plan(x, 1, 3, 2, 1, 0), 1);
        due.is("2 and 3", plan(x, 1, 3, 3, 1, 0), 2);
        due.is("3", plan(x, 1, 3, 3, 3, 2), 3);
        due.is("nobody", plan(x, 1, 3, 3, 3, 3), NONE);
    }

    @Holds(promise = 12, says = "One is at REST in it, if by no other set (all others as they are told) one would have more HOURS.")
    static void atRest(Due due) {
        DunceSee x = told("c91,55;p65;p55");
        due.is("there is no ROOM for 0", plan(x, 1, 0, 3), NONE);
        due.is("there is ROOM on DAY 1", plan(x, 1, 0, 1), 0);
        due.is("1 goes before 0", plan(x, 1, 3, 1), 1);
        due.is("1 goes before 0", plan(x, 1, 3, 0), 1);
        due.is("to PRETEND in vain is REST", plan(x, 1, 3, 3), NONE);
        x.doubt(0);
        due.is("of no use: DOUBT 0", plan(x, 1, 0, 0), NONE);
        x.doubt(1);
        due.is("of use to 1", plan(x, 1, 0, 0), 1);
        x.doubt(2);
        due.is("of use to 0", plan(x, 1, 0, 0), 0);
        due.is("no more HOURS: 0 a DAY", plan(told("c94,5;p60;d61;u61"), 1, 0, 0, 0), NONE);
        due.is("1 HOUR more", plan(told("c94,5;p60;d61;u62"), 1, 0, 0, 0), 2);
        due.is("one STANDS anyhow", plan(told("c94,55;p41"), 1, 0), NONE);
        due.is("others are as told", plan(told("c91,5;p75;p65"), 1, 0, 1), NONE);
        due.is("others are as told, who are asked before, too", plan(told("c91,5;p50;p65"), 1, 0, 0), 1);
        due.is("all five DAYS", plan(told("c94,55555;p65"), 1, 31), NONE);
        due.is("four of five DAYS", plan(told("c94,55555;p65"), 1, 15), 0);
        DunceSee fewer = told("c94,99999;p65");
        see(fewer, 0, "c94,5;p65");
        due.is("DAYS that were", plan(fewer, 1, 1), NONE);
        due.is("to be BISHOP is not asked", plan(told("c94,5;p61;p49"), 1, 0, 0), 0);
    }

    @Holds(promise = 12, says = "HOURS of all together (2)")
    static void hoursOfAll(Due due) {
        DunceSee x = told("c34,5;p75;d86;u48");
        due.is("nobody PRETENDS", plan(x, 2, 0, 0, 0), 4);
        due.is("0 PRETENDS", plan(x, 2, 1, 1, 0), 9);
        x.doubt(4);
        due.is("1 too", plan(x, 2, 1, 1, 1), 14);
        x.build(1);
        due.is("ROOM for one", plan(x, 2, 1, 1, 1), 4);
        due.is("none", plan(told("c04,0;p09;p09"), 2, 1, 1), 0);
        due.is("the most there are", plan(told("c94,99999;p09;p09;p09;p09"), 2, 0, 31, 0, 31), 180);
    }

    @Holds(promise = 12, says = "DAYS on which there is not ROOM for all who WOULD stand, as a set (3)")
    static void crowdedDays(Due due) {
        DunceSee x = told("c91,555;p65;p55;p95");
        due.is("two on DAY 0", plan(x, 3, 1, 3, 0), 1);
        due.is("two on DAYS 0 and 2", plan(x, 3, 5, 5, 2), 5);
        due.is("all on all", plan(x, 3, 7, 7, 7), 7);
        due.is("one a DAY", plan(x, 3, 1, 2, 4), 0);
        x.build(2);
        due.is("just ROOM for two", plan(x, 3, 7, 7, 0), 0);
        due.is("a third on DAY 2", plan(x, 3, 7, 7, 4), 4);
        x.build(3);
        due.is("just ROOM for three", plan(x, 3, 7, 7, 7), 0);
        due.is("those doubted do not count", plan(told("c11,5;p55;p65"), 3, 1, 1), 0);
        due.is("those who do not PRETEND count", plan(told("c11,65;p55;p55"), 3, 0, 0), 1);
        due.is("five DAYS", plan(told("c11,99999;p55;p55"), 3, 0, 0), 31);
        due.is("four, ROOM 4", plan(told("c94,9;p55;p55;p55;p55"), 3, 1, 1, 1, 1), 0);
    }

    @Holds(promise = 12, says = "HOURS of PUPIL p (10 and p; NONE: there is no such PUPIL)")
    static void hoursOfOne(Due due) {
        DunceSee x = told("c93,55555;p61;d62;u64;p54");
        int[] want = {5, 5, 0, 20};
        for (int p = 0; p < 4; p++) {
            due.is("HOURS of " + p, plan(x, 10 + p, 31, 31, 31, 31), want[p]);
        }
        DunceSee one = told("c94,55;p63");
        due.is("HOURS of 0", plan(one, 10, 2), 3);
        for (int p = 1; p < 4; p++) {
            due.is("HOURS of " + p, plan(one, 10 + p, 2), NONE);
        }
        DunceSee three = told("c94,55;p63;p63;p63");
        due.is("HOURS of 2", plan(three, 12, 0, 0, 3), 6);
        due.is("HOURS of 3", plan(three, 13, 0, 0, 3), NONE);
    }

    @Holds(promise = 12, says = "who STANDS on DAY d, as a set (20 and d; NONE: there is no such DAY).")
    static void whoStandsOnADay(Due due) {
        DunceSee x = told("c91,55555;p65;p55;p95");
        int[] want = {2, 2, 1, 4, 0};
        for (int d = 0; d < 5; d++) {
            due.is("DAY " + d, plan(x, 20 + d, 5, 3, 9), want[d]);
        }
        DunceSee one = told("c94,5;p63");
        due.is("DAY 0", plan(one, 20, 1), 1);
        for (int d = 1; d < 5; d++) {
            due.is("DAY " + d, plan(one, 20 + d, 1), NONE);
        }
        due.is("the last of four", plan(told("c94,5555;p63"), 23, 8), 1);
        due.is("a fifth of four", plan(told("c94,5555;p63"), 24, 8), NONE);
        due.is("the plan is not kept", one.stand(0), 0);
    }

    // ---- what is refused

    @Holds(promise = 12, says = "UNKNOWN: SHEET")
    static void noSuchSheet(Due due) {
        DunceSee x = told(TWO);
        for (int k : not(0, 3)) {
            namesFaults(due, x, "plan(" + k + ", ..)", () -> x.plan(k, 2, 0, 2, 0), UNKNOWN);
        }
    }

    @Holds(promise = 12, says = "OUTSIDE: lane")
    static void noSuchLane(Due due) {
        DunceSee x = told(TWO);
        row(x, 1, 2, 0, 0);
        for (int lane : not(0, 2)) {
            namesFaults(due, x, "lane " + lane, () -> x.plan(1, lane, 0, 2, 0), OUTSIDE);
        }
    }

    @Holds(promise = 12, says = "what (0 .. 3, 10 .. 13, 20 .. 24)")
    static void nothingOfThatNumber(Due due) {
        DunceSee x = told(TWO);
        row(x, 1, 2, 0, 0);
        int[] whats = {-1, 4, 9, 14, 19, 25, 30, LEAST, GREATEST};
        for (int what : whats) {
            namesFaults(due, x, "what " + what, () -> x.plan(1, 2, 0, 2, what), OUTSIDE);
        }
        int[] asked = {0, 3, 10, 13, 20, 24};
        int[] want = {1, 0, 5, NONE, 2, NONE};
        for (int i = 0; i < asked.length; i++) {
            due.is("what " + asked[i], x.plan(1, 2, 0, 2, asked[i]), want[i]);
        }
    }

    @Holds(promise = 12, says = "2 CAST (it is of another lane, kind)")
    static void aRowOfAnotherLane(Due due) {
        for (int is = 0; is < 3; is++) {
            DunceSee x = told(TWO);
            row(x, 1, is, 0, 0);
            for (int lane = 0; lane < 3; lane++) {
                if (lane == is) {
                    due.is("lane " + lane, x.plan(1, lane, 0, 2, 0), 1);
                } else {
                    fails(due, x, "lane " + is + " as " + lane, x.plan(1, lane, 0, 2, 0), CAST);
                }
            }
        }
    }

    @Holds(promise = 12, says = "1 NULL (there is nothing)")
    static void ofNothing(Due due) {
        DunceSee x = told(TWO);
        for (int lane = 0; lane < 3; lane++) {
            fails(due, x, "lane " + lane, x.plan(1, lane, 0, 2, 0), NULL);
        }
        row(x, 1, 2, 0, 0);
        x.lose(1);
        fails(due, x, "what is lost", x.plan(1, 2, 0, 2, 0), NULL);
    }

    @Holds(promise = 12, says = "4 SIZE (a length below 0)")
    static void aLengthBelowZero(Due due) {
        DunceSee x = told(TWO);
        row(x, 1, 2, 0, 0);
        fails(due, x, "n -1", x.plan(1, 2, 0, -1, 0), SIZE);
        fails(due, x, "n of the least", x.plan(1, 2, 0, LEAST, 0), SIZE);
        due.is("n 0", x.plan(1, 2, 0, 0, 0), OUTSIDE);
    }

    @Holds(promise = 12, says = "3 INDEX (of cells from i on")
    static void cellsThatAreNotThere(Due due) {
        DunceSee x = told(TWO);
        row(x, 1, 2, 0, 0);
        fails(due, x, "from -1 on", x.plan(1, 2, -1, 2, 0), INDEX);
        fails(due, x, "from 1 on", x.plan(1, 2, 1, 2, 0), INDEX);
        fails(due, x, "a cell too many", x.plan(1, 2, 0, 3, 0), INDEX);
        fails(due, x, "at the end", x.plan(1, 2, 2, 1, 0), INDEX);
        fails(due, x, "a sum that wraps", x.plan(1, 2, 2, GREATEST, 0), INDEX);
        fails(due, x, "a sum that wraps", x.plan(1, 2, GREATEST, GREATEST, 0), INDEX);
        fails(due, x, "a sum that wraps", x.plan(1, 2, GREATEST, 2, 0), INDEX);
        fails(due, x, "i of the least", x.plan(1, 2, LEAST, 2, 0), INDEX);
    }

    @Holds(promise = 12, says = "also where i is not 0 .. how many there are, if none of them is taken, too)")
    static void noneOfTheCells(Due due) {
        DunceSee x = told(TWO);
        row(x, 1, 2, 0, 0);
        fails(due, x, "none from -1 on", x.plan(1, 2, -1, 0, 0), INDEX);
        fails(due, x, "none behind the end", x.plan(1, 2, 3, 0, 0), INDEX);
        namesFaults(due, x, "none at the end", () -> x.plan(1, 2, 2, 0, 0), OUTSIDE);
        namesFaults(due, x, "none at the beginning", () -> x.plan(1, 2, 0, 0, 0), OUTSIDE);
    }

    @Holds(promise = 12, says = "STATE: there is no SEE")
    static void noSee(Due due) {
        DunceSee x = new DunceSee();
        row(x, 1, 2, 0, 0, 0, 0);
        for (int n = 0; n <= 4; n++) {
            int cells = n;
            namesFaults(due, x, "n " + n, () -> x.plan(1, 2, 0, cells, 0), STATE);
        }
        due.is("PUPIL 3", x.plan(1, 2, 0, 4, 13), STATE);
    }

    @Holds(promise = 12, says = "OUTSIDE: n is not how many PUPILS there are")
    static void asManyCellsAsPupils(Due due) {
        DunceSee x = told(TWO);
        row(x, 1, 2, 0, 0, 0, 0, 0);
        for (int n = 0; n <= 5; n++) {
            int cells = n;
            namesFaults(due, x, "n " + n, () -> x.plan(1, 2, 0, cells, 0), n == 2 ? 1 : OUTSIDE);
        }
        due.is("what is NONE is refused too", x.plan(1, 2, 0, 3, 13), OUTSIDE);
    }

    @Holds(promise = 12, says = "a cell is no set of DAYS that there are.")
    static void setsOfDaysThatThereAre(Due due) {
        DunceSee x = told(TWO);
        due.is("the greatest set", plan(x, 2, 3, 3), 22);
        for (int set : new int[] {4, 5, 8, 31, -1, LEAST, GREATEST}) {
            due.is("set " + set + " of 0", plan(x, 0, set, 0), OUTSIDE);
            due.is("set " + set + " of 1", plan(x, 0, 0, set), OUTSIDE);
        }
        due.is("fault()", x.fault(), 0);
        due.is("what is NONE is refused too", plan(x, 24, 0, 4), OUTSIDE);
        DunceSee five = told("c42,36512;p45");
        due.is("31 of five DAYS", plan(five, 2, 31), 25);
        due.is("32 of five DAYS", plan(five, 2, 32), OUTSIDE);
        DunceSee one = told("c42,3;p45");
        due.is("1 of one DAY", plan(one, 2, 1), 5);
        due.is("2 of one DAY", plan(one, 2, 2), OUTSIDE);
    }

    // ---- what is so of all refusals and faults

    @Holds(promise = 12, says = "REFUSALS, in the order in which a call's line tells them")
    static void refusalsInOrder(Due due) {
        DunceSee x = told(TWO);
        due.is("SHEET, lane, what, n", x.plan(4, 3, -1, -1, 4), UNKNOWN);
        due.is("SHEET, n", x.plan(-1, 2, 0, -1, 0), UNKNOWN);
        due.is("lane, nothing", x.plan(1, 3, 0, 2, 0), OUTSIDE);
        due.is("what, nothing", x.plan(1, 2, 0, 2, 4), OUTSIDE);
        due.is("what, CAST", x.plan(0, 2, 0, 2, 14), OUTSIDE);
        due.is("what, SIZE", x.plan(0, 0, 0, -1, 25), OUTSIDE);
        DunceSee none = new DunceSee();
        row(none, 1, 2, -1, 99);
        due.is("lane, no SEE", none.plan(1, -1, 0, 2, 0), OUTSIDE);
        due.is("what, no SEE", none.plan(1, 2, 0, 2, 9), OUTSIDE);
        fails(due, none, "CAST, no SEE", none.plan(1, 1, 0, 2, 0), CAST);
        fails(due, none, "NULL, no SEE", none.plan(0, 1, 0, 2, 0), NULL);
        fails(due, none, "SIZE, no SEE", none.plan(1, 2, 0, -1, 0), SIZE);
        fails(due, none, "INDEX, no SEE", none.plan(1, 2, 0, 3, 0), INDEX);
        due.is("no SEE, sets that are none", none.plan(1, 2, 0, 2, 0), STATE);
        fails(due, x, "INDEX, n", plannedBeyond(x), INDEX);
    }

    private static int plannedBeyond(DunceSee x) {
        row(x, 1, 2, -1, -1);
        return x.plan(1, 2, 0, 3, 0);
    }

    @Holds(promise = 12, says = "FAULTS CAST, NULL, SIZE, INDEX")
    static void faultsInOrder(Due due) {
        DunceSee x = told(TWO);
        row(x, 1, 2, 0, 0);
        fails(due, x, "CAST, SIZE, INDEX", x.plan(1, 1, -1, -1, 0), CAST);
        fails(due, x, "CAST, INDEX", x.plan(1, 0, 0, 9, 0), CAST);
        fails(due, x, "NULL, SIZE, INDEX", x.plan(2, 2, -1, -1, 0), NULL);
        fails(due, x, "NULL, INDEX", x.plan(2, 0, 0, 9, 0), NULL);
        fails(due, x, "SIZE, INDEX", x.plan(1, 2, -1, -1, 0), SIZE);
        fails(due, x, "SIZE, INDEX", x.plan(1, 2, 9, LEAST, 0), SIZE);
    }

    @Holds(promise = 12, says = "they change nothing (but fault(), of a call that names FAULTS)")
    static void nothingIsChanged(Due due) {
        DunceSee x = told(FOUR);
        x.reading(0, 2, 5);
        x.tell(2);
        row(x, 1, 2, 15, 15, 15, 15, 16);
        changesNothing(due, x, () -> {
            due.is("UNKNOWN", x.plan(4, 2, 0, 4, 0), UNKNOWN);
            due.is("OUTSIDE", x.plan(1, 3, 0, 4, 0), OUTSIDE);
            due.is("OUTSIDE", x.plan(1, 2, 0, 4, 4), OUTSIDE);
            due.is("OUTSIDE", x.plan(1, 2, 0, 3, 0), OUTSIDE);
            due.is("OUTSIDE", x.plan(1, 2, 1, 4, 0), OUTSIDE);
            due.is("CAST", x.plan(1, 1, 0, 4, 0), -10 - CAST);
            due.is("NULL", x.plan(2, 1, 0, 4, 0), -10 - NULL);
            due.is("SIZE", x.plan(1, 2, 0, -4, 0), -10 - SIZE);
            due.is("INDEX", x.plan(1, 2, 2, 4, 0), -10 - INDEX);
        });
    }

    @Holds(promise = 12, says = "A PLAN told")
    static void aPlanIsNotKept(Due due) {
        DunceSee x = told(FOUR);
        x.reading(0, 2, 5);
        row(x, 1, 2, 15, 15, 15, 15);
        changesNothing(due, x, () -> {
            int[] want = {1, NONE, 44, 11};
            for (int what = 0; what <= 3; what++) {
                due.is("what " + what, x.plan(1, 2, 0, 4, what), want[what]);
            }
        });
    }
}
