/** Promise 10: stand. */
public final class Promise10Test extends Promises {
    public static void main(String[] args) {
        run(Promise10Test.class);
    }

    @Holds(promise = 10, says = "Who STANDS on a DAY, if nobody PRETENDS, as a set.")
    static void ofEachDay(Due due) {
        DunceSee x = told(FOUR);
        int[] want = {2, 3, 0, 3};
        for (int d = 0; d < 4; d++) {
            due.is("stand(" + d + ")", x.stand(d), want[d]);
        }
        due.is("who would if pretending", told("c91,5;p55").stand(0), 0);
        namesNoFaults(due, x, "stand(0)", () -> x.stand(0), 2);
        plan(x, 0, 15, 15, 15, 15);
        due.is("behind a plan", x.stand(0), 2);
    }

    @Holds(promise = 10, says = "Sets are told as bits (bit k for number k).")
    static void setsAreBits(Due due) {
        int[] wits = {9, 9, 9, 9};
        for (int p = 0; p < 4; p++) {
            wits[p] = 0;
            due.is("only " + p, told("c04,5;p" + wits[0] + "1;p" + wits[1] + "1;p" + wits[2] + "1;p"
                + wits[3] + "1").stand(0), 1 << p);
            wits[p] = 9;
        }
        due.is("all", told("c04,5;p01;p01;p01;p01").stand(0), 15);
        due.is("none", told("c04,0;p01;p01;p01;p01").stand(0), 0);
    }

    @Holds(promise = 10, says = "All who WOULD do STAND")
    static void allIfThereIsRoom(Due due) {
        due.is("four, ROOM 4", told("c04,9;p81;p81;p01;p51").stand(0), 15);
        due.is("three, ROOM 3", told("c03,6;p51;p61;p01;p51").stand(0), 13);
        due.is("two, ROOM 2", told("c02,6;p51;p61;p71;p51").stand(0), 9);
        due.is("one, ROOM 1", told("c01,6;p91;p61;p71;p51").stand(0), 8);
        due.is("none, ROOM 1", told("c01,5;p91;p61;p71;p51").stand(0), 0);
        due.is("HOURS do not matter", told("c04,9;p80;d80;u80").stand(0), 7);
    }

    @Holds(promise = 10, says = "if there is not ROOM for all of them, those of the least WIT do, as many as there is ROOM")
    static void thoseOfTheLeastWit(Due due) {
        int[] byRoom = {4, 5, 13, 15};
        for (int room = 1; room <= 4; room++) {
            due.is("ROOM " + room, told("c0" + room + ",9;p31;p81;p11;p51").stand(0), byRoom[room - 1]);
        }
        due.is("who would not takes no ROOM", told("c01,5;p65;p55;p45;p75").stand(0), 4);
        DunceSee x = told("c01,5;p45;p35");
        due.is("stand(0)", x.stand(0), 2);
        x.teach(0, 2);
        due.is("behind teach", x.stand(0), 1);
    }

    @Holds(promise = 10, says = "of equal ones the lesser number.")
    static void ofEqualOnesTheLesser(Due due) {
        int[] byRoom = {2, 10, 11, 15};
        int[] allEqual = {1, 3, 7, 15};
        for (int room = 1; room <= 4; room++) {
            due.is("ROOM " + room, told("c0" + room + ",9;p45;p35;p45;p35").stand(0), byRoom[room - 1]);
            due.is("ROOM " + room, told("c0" + room + ",9;p45;p45;p45;p45").stand(0), allEqual[room - 1]);
        }
        due.is("patience does not matter", told("c01,9;p41;p49").stand(0), 1);
    }

    @Holds(promise = 10, says = "UNKNOWN.")
    static void noSuchDay(Due due) {
        DunceSee x = told(TWO);
        for (int d : not(0, 1)) {
            namesNoFaults(due, x, "stand(" + d + ")", () -> x.stand(d), UNKNOWN);
        }
        due.is("a sixth", told("c42,36512;p45").stand(5), UNKNOWN);
        due.is("no SEE", new DunceSee().stand(0), UNKNOWN);
    }
}
