/** Promises 9 to 12: would, stand, bishop, plan. */
public final class StandTest {
    private static final Due due = new Due("StandTest");

    public static void main(String[] args) {
        wouldByWitAndDoubt();
        refusalsOfWould();
        standByRoom();
        bishops();
        plansOfOneDay();
        plansByRoom();
        rest();
        refusalsOfPlan();
        faultsOfPlan();
        plansOfLanesAndPlaces();
        theGreatestSee();
        theLeastSee();
        due.end();
    }

    private static void wouldByWitAndDoubt() {
        for (int wit = 0; wit <= 9; wit++) {
            for (int doubt = 0; doubt <= 9; doubt++) {
                DunceSee x = Due.told("c" + doubt + "1,5;p" + wit + "1");
                String who = "WIT " + wit + ", DOUBT " + doubt + ", HARD 5: ";
                due.is(who + "would not pretending", x.would(0, 0, false), wit < 5 ? 1 : 0);
                due.is(who + "would pretending", x.would(0, 0, true), wit < 5 + doubt || wit < 5 ? 1 : 0);
            }
        }
    }

    private static void refusalsOfWould() {
        DunceSee x = Due.told("c42,36;p45;d27;u11");
        due.is("would(2, 1)", x.would(2, 1, false), 1);
        due.is("would(3, 0)", x.would(3, 0, false), -1);
        due.is("would(-1, 0)", x.would(-1, 0, true), -1);
        due.is("would(0, 2)", x.would(0, 2, true), -1);
        due.is("would(0, -1)", x.would(0, -1, true), -1);
    }

    private static void standByRoom() {
        String text = "c0R,9990;p45;p35;p45;p35";
        int[] byRoom = {2, 10, 11, 15};
        for (int room = 1; room <= 4; room++) {
            DunceSee x = Due.told(text.replace("R", String.valueOf(room)));
            due.is("stand(0), ROOM " + room, x.stand(0), byRoom[room - 1]);
            due.is("stand(3), ROOM " + room, x.stand(3), 0);
            due.is("stand(4)", x.stand(4), -1);
            due.is("stand(-1)", x.stand(-1), -1);
        }
        DunceSee x = Due.told("c01,5;p65;p55;p45;p05");
        due.is("those who would not take no ROOM", x.stand(0), 8);
        x.ask(0, 6);
        x.build(2);
        due.is("the least WIT", x.stand(0), 12);
        x.teach(1, 0);
        due.is("of equal ones the lesser number", x.stand(0), 10);
        x.build(1);
        due.is("of equal ones the lesser number", x.stand(0), 2);
        due.is("stand() names no PRETENDING", Due.told("c91,5;p55").stand(0), 0);
    }

    private static void bishops() {
        due.is("without a SEE", new DunceSee().bishop(), -3);
        due.is("nobody stands", Due.told("c91,0;p09;p09").bishop(), -9);
        due.is("they stand 0 HOURS", Due.told("c94,99;p00;d01;u01").bishop(), -9);
        due.is("of several the least", Due.told("c04,9;p02;p03;d04;u06").bishop(), 1);
        due.is("the most HOURS of all DAYS", Due.told("c04,951;p42;p03;p24").bishop(), 1);
        due.is("more DAYS", Due.told("c04,9511;p42;p02;p25").bishop(), 2);
        due.is("who has no ROOM is none", Due.told("c01,9;p59;p41").bishop(), 1);
        DunceSee x = Due.told("c04,9;p05;p06");
        due.is("bishop()", x.bishop(), 1);
        x.teach(1, 9);
        due.is("bishop() behind teach", x.bishop(), 0);
        x.ask(0, 0);
        due.is("bishop() behind ask", x.bishop(), -9);
    }

    private static void plansOfOneDay() {
        DunceSee x = Due.told("c34,5;p75;d86;u48");
        due.is("who PRETENDS is BISHOP", Due.plan(x, 0, 1, 0, 0), 0);
        due.is("who is doubted is not", Due.plan(x, 0, 0, 1, 0), 2);
        due.is("HOURS of all", Due.plan(x, 2, 1, 1, 0), 9);
        due.is("HOURS of 0", Due.plan(x, 10, 1, 1, 0), 5);
        due.is("HOURS of 1", Due.plan(x, 11, 1, 1, 0), 0);
        due.is("HOURS of 2", Due.plan(x, 12, 1, 1, 1), 4);
        due.is("HOURS of none", Due.plan(x, 13, 1, 1, 0), -9);
        due.is("who STANDS", Due.plan(x, 20, 1, 1, 0), 5);
        for (int d = 1; d < 5; d++) {
            due.is("who STANDS on no DAY", Due.plan(x, 20 + d, 1, 1, 0), -9);
        }
        due.is("nobody", Due.plan(Due.told("c31,0;p91;p91"), 0, 1, 1), -9);
        due.is("the plan is not kept", x.bishop(), 2);
        due.is("the plan is not kept", x.stand(0), 4);
    }

    private static void plansByRoom() {
        DunceSee x = Due.told("c91,555;p65;p55;p45");
        due.is("who STANDS on 0", Due.plan(x, 20, 1, 3, 0), 4);
        x.teach(2, 9);
        due.is("who STANDS on 0", Due.plan(x, 20, 1, 3, 0), 2);
        due.is("who STANDS on 1", Due.plan(x, 21, 1, 3, 0), 2);
        due.is("who STANDS on 2", Due.plan(x, 22, 1, 3, 0), 0);
        due.is("crowded DAYS", Due.plan(x, 3, 1, 3, 0), 1);
        due.is("crowded DAYS", Due.plan(x, 3, 5, 5, 6), 5);
        due.is("crowded DAYS", Due.plan(x, 3, 7, 7, 7), 7);
        x.build(2);
        due.is("just ROOM is no crowd", Due.plan(x, 3, 7, 7, 0), 0);
        due.is("crowded DAYS", Due.plan(x, 3, 7, 7, 4), 4);
        due.is("HOURS of all", Due.plan(x, 2, 7, 7, 4), 30);
        x.build(3);
        due.is("HOURS of all", Due.plan(x, 2, 7, 7, 4), 35);
    }

    private static void rest() {
        DunceSee x = Due.told("c91,55;p65;p55");
        due.is("0 would rather, but there is no ROOM", Due.plan(x, 1, 0, 3), -9);
        due.is("0 would rather", Due.plan(x, 1, 0, 1), 0);
        due.is("1 would rather", Due.plan(x, 1, 3, 1), 1);
        due.is("1 would rather", Due.plan(x, 1, 3, 0), 1);
        due.is("PRETENDING in vain is REST", Due.plan(x, 1, 3, 3), -9);
        x.doubt(0);
        due.is("to PRETEND is of no use", Due.plan(x, 1, 0, 0), -9);
        x.doubt(1);
        due.is("it is of use to 1", Due.plan(x, 1, 0, 0), 1);
        x.doubt(2);
        due.is("it is of use to 0", Due.plan(x, 1, 0, 0), 0);
        due.is("more HOURS of 0 are none", Due.plan(Due.told("c94,5;p60;d61;u61"), 1, 0, 0, 0), -9);
        due.is("of 1 they are", Due.plan(Due.told("c94,5;p60;d61;u62"), 1, 0, 0, 0), 2);
        due.is("0 is asked about, but does not PRETEND", Due.plan(Due.told("c91,5;p50;p65"), 1, 0, 0), 1);
        due.is("a lesser WIT makes ROOM", Due.plan(Due.told("c91,5;p75;p65"), 1, 1, 0), 1);
    }

    private static void refusalsOfPlan() {
        DunceSee x = Due.told("c42,36;p45;d27");
        int[] whats = {-1, 4, 9, 14, 19, 25, Integer.MIN_VALUE, Integer.MAX_VALUE};
        for (int what : whats) {
            due.is("plan what " + what, Due.plan(x, what, 0, 0), -2);
            due.is("plan what " + what + " of nothing", x.plan(2, 0, 0, 2, what), -2);
        }
        due.is("plan sheet 4", x.plan(4, 9, 0, 2, 99), -1);
        due.is("plan sheet -1", x.plan(-1, 2, 0, 2, 0), -1);
        due.is("plan lane -1", x.plan(2, -1, 0, 2, 0), -2);
        due.is("plan lane 3", x.plan(1, 3, 0, 2, 0), -2);
        due.is("too few cells", Due.plan(x, 0, 0), -2);
        due.is("too many cells", Due.plan(x, 0, 0, 0, 0), -2);
        due.is("no cells", Due.plan(x, 0), -2);
        due.is("a cell beyond the DAYS", Due.plan(x, 0, 4, 0), -2);
        due.is("a cell beyond the DAYS", Due.plan(x, 0, 0, 4), -2);
        due.is("a cell below 0", Due.plan(x, 0, 0, -1), -2);
        due.is("a cell below 0", Due.plan(x, 0, Integer.MIN_VALUE, 0), -2);
        due.is("the last set of DAYS", Due.plan(x, 2, 3, 3), 22);
        due.is("a refusal is before NONE", Due.plan(x, 13, 4, 0), -2);
        DunceSee y = new DunceSee();
        due.is("no SEE", Due.plan(y, 0, 0, 0), -3);
        due.is("no SEE, no cells", Due.plan(y, 0), -3);
        due.is("no SEE, bad cells", Due.plan(y, 13, -1), -3);
        x.put(3, 0, 0);
        due.is("fault()", x.fault(), 1);
        due.is("a refusal", x.plan(1, 2, 0, 1, 0), -2);
        due.is("fault() behind a refusal", x.fault(), 0);
        x.put(3, 0, 0);
        due.is("a refusal", x.plan(9, 2, 0, 1, 0), -1);
        due.is("fault() behind a refusal", x.fault(), 0);
        y.put(3, 0, 0);
        due.is("a refusal", Due.plan(y, 0, 0), -3);
        due.is("fault() behind STATE", y.fault(), 0);
    }

    private static void faultsOfPlan() {
        DunceSee[] all = {new DunceSee(), Due.told("c42,36;p45;d27")};
        for (DunceSee x : all) {
            x.sheet(1, 2, 2);
            planFault(x, 1, 1, -1, -1, 2);
            planFault(x, 1, 0, 0, 2, 2);
            planFault(x, 2, 0, -1, -1, 1);
            planFault(x, 2, 2, 0, 2, 1);
            planFault(x, 1, 2, -1, -1, 4);
            planFault(x, 1, 2, 0, Integer.MIN_VALUE, 4);
            planFault(x, 1, 2, -1, 2, 3);
            planFault(x, 1, 2, 1, 2, 3);
            planFault(x, 1, 2, 0, 3, 3);
            planFault(x, 1, 2, 3, 0, 3);
            planFault(x, 1, 2, -1, 0, 3);
            planFault(x, 1, 2, Integer.MAX_VALUE, Integer.MAX_VALUE, 3);
            planFault(x, 1, 2, 2, Integer.MAX_VALUE, 3);
        }
    }

    private static void planFault(DunceSee x, int k, int lane, int i, int n, int want) {
        String call = "plan(" + k + ", " + lane + ", " + i + ", " + n + ", 0)";
        due.is(call, x.plan(k, lane, i, n, 0), -10 - want);
        due.is(call + " fault()", x.fault(), want);
    }

    private static void plansOfLanesAndPlaces() {
        for (int lane = 0; lane < 3; lane++) {
            DunceSee x = Due.told("c92,55;p65;p55");
            x.sheet(2, lane, 4);
            x.put(2, 1, 2);
            x.put(2, 2, 1);
            due.is("plan in the middle", x.plan(2, lane, 1, 2, 20), 2);
            due.is("plan in the middle", x.plan(2, lane, 1, 2, 21), 1);
            due.is("plan further on", x.plan(2, lane, 2, 2, 20), 1);
            due.is("plan further on", x.plan(2, lane, 2, 2, 21), 0);
            due.is("fault()", x.fault(), 0);
        }
    }

    private static void theGreatestSee() {
        DunceSee x = Due.told("c93,55555;p61;d62;u64;p54");
        int all = 31;
        due.is("BISHOP", Due.plan(x, 0, all, all, all, all), 3);
        due.is("all are at REST", Due.plan(x, 1, all, all, all, all), -9);
        due.is("HOURS of all", Due.plan(x, 2, all, all, all, all), 30);
        due.is("crowded DAYS", Due.plan(x, 3, all, all, all, all), 31);
        int[] hours = {5, 5, 0, 20};
        for (int p = 0; p < 4; p++) {
            due.is("HOURS of " + p, Due.plan(x, 10 + p, all, all, all, all), hours[p]);
        }
        for (int d = 0; d < 5; d++) {
            due.is("who STANDS", Due.plan(x, 20 + d, all, all, all, all), 11);
            due.is("stand(" + d + ")", x.stand(d), 0);
        }
        due.is("the last would rather", Due.plan(x, 1, all, all, all, 15), 3);
        due.is("crowded DAYS", Due.plan(x, 3, all, all, all, 15), 15);
        due.is("best(3)", x.best(3), 1);
        due.is("bishop()", x.bishop(), -9);
        due.is("odds(3, 0)", x.odds(3, 0), 1);
        due.is("odds(3, 1)", x.odds(3, 1), 2);
    }

    private static void theLeastSee() {
        DunceSee x = Due.told("c11,1;p11");
        due.is("bishop()", x.bishop(), -9);
        due.is("doubt(0)", x.doubt(0), 1);
        due.is("build(2)", x.build(2), 1);
        due.is("plan", Due.plan(x, 0, 1), -9);
        x.doubt(1);
        due.is("plan", Due.plan(x, 0, 1), 0);
        due.is("would rather", Due.plan(x, 1, 0), 0);
    }
}
