/** Promises 13 and 14: best, choose. */
public final class BishopTest {
    private static final Due due = new Due("BishopTest");

    public static void main(String[] args) {
        bests();
        refusalsOfBest();
        chosen();
        refusalsOfChoose();
        nothingIsKept();
        due.end();
    }

    private static void bests() {
        due.is("one is already", Due.told("c04,9;p05").best(0), 0);
        due.is("one DAY is enough", Due.told("c94,555;p65").best(0), 1);
        due.is("the least of several", Due.told("c94,5550;p65;p43").best(0), 3);
        due.is("fewest goes before least", Due.told("c14,5756;p69;p60").best(0), 0);
        due.is("only a late DAY helps", Due.told("c14,0005;p55").best(0), 8);
        due.is("one of four easy DAYS", Due.told("c94,0000;p52;p93;p93").best(0), 1);
        due.is("doubted", Due.told("c04,555;p65").best(0), -9);
        due.is("no HOURS", Due.told("c94,555;p60").best(0), -9);
        due.is("no ROOM", Due.told("c91,555;p65;p41").best(0), -9);
        due.is("equal HOURS do for the lesser", Due.told("c94,55;p65;p45").best(0), 3);
        due.is("equal HOURS do not for the greater", Due.told("c94,55;p45;p65").best(1), -9);
        due.is("one makes another leave", Due.told("c91,87;p79;p52").best(0), -9);
        due.is("one takes the ROOM of another", Due.told("c92,5555;p43;p45;p35").best(0), -9);
        due.is("taking the ROOM", Due.told("c91,7777;p69;p55;p55").best(2), -9);
        due.is("all DAYS are needed", Due.told("c94,55555;p65;p45").best(0), 31);
        due.is("four of five", Due.told("c94,55551;p65;p45").best(0), 15);
        DunceSee x = Due.told("c42,3615;p45;d27;u68;p53");
        int[] want = {5, 0, -9, -9};
        for (int p = 0; p < 4; p++) {
            due.is("best(" + p + ")", x.best(p), want[p]);
        }
        due.is("fewest, though not the least", Due.told("c14,5605;p59;p49").best(0), 9);
    }

    private static void refusalsOfBest() {
        DunceSee x = Due.told("c42,36;p45;d27");
        due.is("best(-1)", x.best(-1), -1);
        due.is("best(2)", x.best(2), -1);
        due.is("best(0) of a new one", new DunceSee().best(0), -1);
    }

    private static void chosen() {
        for (int wit = 0; wit <= 9; wit++) {
            due.is("above one's WIT", Due.told("c91,0;p" + wit + "1").choose(0, 0),
                wit == 9 ? -9 : wit + 1);
        }
        DunceSee x = Due.told("c04,55;p45;p34");
        due.is("0 is BISHOP anyhow", x.choose(0, 0), 0);
        due.is("1 is if 0 is left out", x.choose(1, 0), 4);
        due.is("1 is if 0 is left out", x.choose(1, 1), 4);
        due.is("for nothing", Due.told("c04,55;p49;p91").choose(1, 1), -9);
        due.is("no HOURS", Due.told("c04,5;p40").choose(0, 0), -9);
        due.is("PRETENDING does not count", Due.told("c94,0;p95").choose(0, 0), -9);
        due.is("by ROOM", Due.told("c01,5;p19;p09").choose(0, 0), -9);
    }

    private static void refusalsOfChoose() {
        DunceSee x = Due.told("c42,36;p45;d27");
        due.is("choose(-1, 0)", x.choose(-1, 0), -1);
        due.is("choose(2, 0)", x.choose(2, 0), -1);
        due.is("choose(0, -1)", x.choose(0, -1), -1);
        due.is("choose(0, 2)", x.choose(0, 2), -1);
        due.is("choose(0, 0) of a new one", new DunceSee().choose(0, 0), -1);
    }

    private static void nothingIsKept() {
        DunceSee x = Due.told("c42,36;p45;d27");
        x.choose(0, 1);
        x.best(0);
        due.is("hard(1)", x.hard(1), 6);
        due.is("stand(0)", x.stand(0), 2);
        due.is("bishop()", x.bishop(), 1);
        due.is("choose behind best", x.choose(1, 1), 0);
        DunceSee y = Due.told("c94,5;p65;p64");
        Due.plan(y, 0, 1, 1);
        due.is("best behind a plan", y.best(1), 1);
        Due.plan(y, 0, 1, 1);
        due.is("choose behind a plan", y.choose(0, 0), 7);
        y.ask(0, 7);
        due.is("best behind ask", y.best(0), 0);
        y.teach(1, 9);
        y.teach(0, 8);
        due.is("best behind teach", y.best(1), 1);
        y.doubt(2);
        due.is("best behind doubt", y.best(1), -9);
        Due.see(y, 0, "c94,5;p45");
        due.is("best behind a text", y.best(0), 0);
    }
}
