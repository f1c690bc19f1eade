/** Promise 1: a new object. */
public final class Promise01Test extends Promises {
    public static void main(String[] args) {
        run(Promise01Test.class);
    }

    @Holds(promise = 1, says = "No SEE")
    static void withoutASeeThereIsNoState(Due due) {
        DunceSee x = new DunceSee();
        due.is("bishop()", x.bishop(), STATE);
        due.is("doubt(0)", x.doubt(0), STATE);
        due.is("build(1)", x.build(1), STATE);
        for (int what = 0; what <= 4; what++) {
            due.is("many(" + what + ")", x.many(what), 0);
        }
        due.is("a plan", plan(x, 0, 0), STATE);
    }

    @Holds(promise = 1, says = "STATE (as told)")
    static void onlyWhereItIsTold(Due due) {
        DunceSee x = new DunceSee();
        due.is("back(0)", x.back(0), 0);
        due.is("back(1)", x.back(1), OUTSIDE);
        due.is("trace()", x.trace(), 0);
        due.is("fault()", x.fault(), 0);
        due.is("lose(0)", x.lose(0), 0);
        due.is("sheet(0, 2, 2)", x.sheet(0, 2, 2), 1);
        due.is("put(0, 1, 5)", x.put(0, 1, 5), 1);
        due.is("copy(0, 1, 0, 0, 1)", x.copy(0, 1, 0, 0, 1), 1);
        due.is("cell(0, 0, 2)", x.cell(0, 0, 2), 5);
        due.is("see(0, 2, 0, 2)", x.see(0, 2, 0, 2), -100);
    }

    @Holds(promise = 1, says = "no DAYS, PUPILS")
    static void noDaysNoPupils(Due due) {
        DunceSee x = new DunceSee();
        for (int k = -1; k <= 5; k++) {
            due.is("ofPupil(" + k + ", 0)", x.ofPupil(k, 0), UNKNOWN);
            due.is("hard(" + k + ")", x.hard(k), UNKNOWN);
            due.is("ask(" + k + ", 0)", x.ask(k, 0), UNKNOWN);
            due.is("teach(" + k + ", 0)", x.teach(k, 0), UNKNOWN);
            due.is("would(" + k + ", 0, true)", x.would(k, 0, true), UNKNOWN);
            due.is("stand(" + k + ")", x.stand(k), UNKNOWN);
            due.is("best(" + k + ")", x.best(k), UNKNOWN);
            due.is("choose(" + k + ", 0)", x.choose(k, 0), UNKNOWN);
            due.is("reading(" + k + ", 0, 0)", x.reading(k, 0, 0), UNKNOWN);
            due.is("wits(" + k + ")", x.wits(k), UNKNOWN);
            due.is("kinds(" + k + ")", x.kinds(k), UNKNOWN);
            due.is("hards(" + k + ")", x.hards(k), UNKNOWN);
            due.is("odds(" + k + ", 0)", x.odds(k, 0), LOST);
            due.is("tell(" + k + ")", x.tell(k), UNKNOWN);
            due.is("cap(" + k + ")", x.cap(k), UNKNOWN);
            due.is("as(" + k + ", 0)", x.as(k, 0), UNKNOWN);
        }
        due.is("trace()", x.trace(), 0);
    }

    @Holds(promise = 1, says = "SHEETS have nothing.")
    static void sheetsHaveNothing(Due due) {
        DunceSee x = new DunceSee();
        for (int k = 0; k < 4; k++) {
            fails(due, x, "put(" + k + ", 0, 0)", x.put(k, 0, 0), NULL);
            fails(due, x, "copy(" + k + ", ..)", x.copy(k, 0, k, 0, 0), NULL);
            for (int lane = 0; lane < 3; lane++) {
                fails(due, x, "see(" + k + ", ..)", x.see(k, lane, 0, 0), NULL);
                fails(due, x, "plan(" + k + ", ..)", x.plan(k, lane, 0, 0, 0), NULL);
                due.is("cell(" + k + ", 0, " + lane + ")", x.cell(k, 0, lane), LOST);
                due.is("fault()", x.fault(), NULL);
            }
            due.is("lose(" + k + ")", x.lose(k), 0);
        }
    }

    @Holds(promise = 1, says = "No SEE (no DAYS, PUPILS), SHEETS have nothing.")
    static void aNewObjectHasNothingOfAnother(Due due) {
        String before = Seen.of(new DunceSee());
        DunceSee used = told(FOUR);
        used.reading(0, 0, 0);
        used.tell(2);
        used.as(0, 2);
        DunceSee x = new DunceSee();
        due.is("fault()", x.fault(), 0);
        due.holds("as new as the first one", Seen.of(x).equals(before));
        due.is("the other is as it was", used.many(0), 4);
    }
}
