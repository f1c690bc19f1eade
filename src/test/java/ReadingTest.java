/** Promises 15 to 20: reading, back, wits, kinds, hards, odds. */
public final class ReadingTest {
    private static final Due due = new Due("ReadingTest");

    public static void main(String[] args) {
        numbersOfReadings();
        refusalsOfReading();
        takingBack();
        witsByReadings();
        kindsByReadings();
        hardsByReadings();
        readingsOfOthers();
        readingsThatCannotBe();
        readingsStayThroughChanges();
        oddsOfPupils();
        refusalsOfOdds();
        due.end();
    }

    private static void numbersOfReadings() {
        DunceSee x = Due.told("c42,36;p45;d27");
        for (int r = 0; r < 8; r++) {
            due.is("the number of a READING", x.reading(0, 0, 0), r);
            due.is("how many", x.many(4), r + 1);
        }
        due.is("a ninth READING", x.reading(0, 0, 0), -4);
        due.is("a ninth READING of nobody", x.reading(2, 0, 0), -1);
        due.is("a ninth READING outside", x.reading(0, 3, 0), -2);
        due.is("how many", x.many(4), 8);
        due.is("back(1)", x.back(1), 7);
        due.is("an eighth READING", x.reading(1, 2, 99), 7);
    }

    private static void refusalsOfReading() {
        DunceSee x = Due.told("c42,36;p45;d27");
        due.is("reading(-1)", x.reading(-1, 0, 0), -1);
        due.is("reading(2)", x.reading(2, 9, 100), -1);
        due.is("t -1", x.reading(0, -1, 0), -2);
        due.is("t 3", x.reading(0, 3, 0), -2);
        due.is("v -1", x.reading(0, 0, -1), -2);
        due.is("v 100", x.reading(0, 0, 100), -2);
        due.is("none was taken", x.many(4), 0);
        due.is("t 2, v 99", x.reading(0, 2, 99), 0);
    }

    private static void takingBack() {
        DunceSee x = Due.told("c42,36;p45;d27");
        due.is("back(0)", x.back(0), 0);
        due.is("back(1)", x.back(1), -2);
        due.is("back(-1)", x.back(-1), -2);
        x.reading(0, 2, 5);
        x.reading(0, 1, 9);
        due.is("wits of what cannot be", x.wits(0), 0);
        due.is("back(3)", x.back(3), -2);
        due.is("back(0)", x.back(0), 2);
        due.is("back(1) takes the last", x.back(1), 1);
        due.is("wits by the first", x.wits(0), 56);
        due.is("back(Integer.MIN_VALUE)", x.back(Integer.MIN_VALUE), -2);
        due.is("back(1)", x.back(1), 0);
        due.is("wits by none", x.wits(0), 1023);
    }

    private static void witsByReadings() {
        DunceSee x = Due.told("c94,357;p45;d27");
        due.is("by none", x.wits(0), 1023);
        x.reading(0, 3, 10);
        due.is("below 5, not below 3", x.wits(0), 24);
        x.back(1);
        x.reading(0, 3, 0);
        due.is("below none", x.wits(0), 896);
        x.back(1);
        x.reading(0, 1, 5);
        due.is("below 3", x.wits(0), 7);
        x.back(1);
        x.reading(0, 0, 0);
        due.is("behind no DAYS", x.wits(0), 1023);
        x.reading(0, 2, 0);
        due.is("behind two DAYS", x.wits(0), 992);
        due.is("wits(-1)", x.wits(-1), -1);
        due.is("wits(2)", x.wits(2), -1);
        due.is("the WIT stays", x.ofPupil(0, 1), 4);
        DunceSee y = Due.told("c91,9;p45;p35");
        y.reading(0, 1, 5);
        due.is("by ROOM of equal ones too", y.wits(0), 15);
        y.back(1);
        y.reading(1, 1, 5);
        due.is("by ROOM, not of equal ones", y.wits(1), 15);
        due.is("of the other, not of equal ones", y.wits(0), 1008);
    }

    private static void kindsByReadings() {
        int[] hours = {4, 3, 2};
        for (int kind = 0; kind < 3; kind++) {
            for (int is = 0; is < 3; is++) {
                DunceSee x = Due.told("c94,99;" + "pdu".charAt(is) + "04");
                due.is("by none", x.kinds(0), 7);
                x.reading(0, 2, 2 * hours[kind]);
                due.is("by HOURS", x.kinds(0), 1 << kind);
                due.is("the kind stays", x.ofPupil(0, 0), is);
            }
        }
        DunceSee x = Due.told("c94,9;p02;d01");
        x.reading(0, 1, 1);
        due.is("of 2 DEACON and CURATE", x.kinds(0), 6);
        due.is("of the other none is so", x.kinds(1), 0);
        x.back(1);
        x.reading(1, 1, 0);
        due.is("of 1 DEACON and CURATE", x.kinds(1), 6);
        due.is("of the other all are so", x.kinds(0), 7);
        due.is("kinds(-1)", x.kinds(-1), -1);
        due.is("kinds(2)", x.kinds(2), -1);
    }

    private static void hardsByReadings() {
        DunceSee x = Due.told("c94,555;p45;p65");
        due.is("by none", x.hards(0), 1023);
        x.reading(0, 3, 10);
        for (int d = 0; d < 3; d++) {
            due.is("one DAY was easy", x.hards(d), 31);
        }
        x.reading(1, 1, 0);
        due.is("and not hard", x.hards(0), 31);
        due.is("other DAYS", x.hards(1), 31);
        x.back(2);
        x.reading(1, 2, 5);
        due.is("the first was hard", x.hards(0), 896);
        due.is("the last was as it was", x.hards(2), 0);
        due.is("HARD stays", x.hard(0), 5);
        due.is("hards(-1)", x.hards(-1), -1);
        due.is("hards(3)", x.hards(3), -1);
    }

    private static void readingsOfOthers() {
        DunceSee x = Due.told("c91,9;p45;p55");
        x.reading(1, 1, 5);
        due.is("the WIT by which 1 has ROOM", x.wits(0), 960);
        due.is("the WIT of 1", x.wits(1), 15);
        due.is("no kind gives ROOM", x.kinds(0), 0);
        due.is("no HARD makes 1 stand", x.hards(0), 0);
        x.build(2);
        due.is("with ROOM the WIT of 0 is free", x.wits(0), 1023);
        due.is("so is that of 1 below 9", x.wits(1), 511);
        due.is("HARD is above that of 1", x.hards(0), 960);
        due.is("DOUBT is of no use", x.doubt(0), 9);
        due.is("HARD is above that of 1", x.hards(0), 960);
    }

    private static void readingsThatCannotBe() {
        DunceSee x = Due.told("c42,36;p45;d27");
        x.reading(0, 0, 1);
        for (int p = 0; p < 2; p++) {
            due.is("wits", x.wits(p), 0);
            due.is("kinds", x.kinds(p), 0);
            due.is("hards", x.hards(p), 0);
        }
    }

    private static void readingsStayThroughChanges() {
        DunceSee x = Due.told("c42,36;p45;d27");
        x.reading(0, 2, 5);
        x.teach(1, 0);
        x.ask(0, 9);
        x.doubt(1);
        x.build(1);
        due.is("READINGS", x.many(4), 1);
        due.is("and what they tell is of the SEE as it is", x.wits(0), 0);
        x.build(2);
        due.is("and what they tell is of the SEE as it is", x.wits(0), 448);
    }

    private static void oddsOfPupils() {
        share(Due.told("c94,5;p65"), 0, 1, 2);
        share(Due.told("c94,5;p45"), 0, 1, 1);
        share(Due.told("c04,5;p65"), 0, 0, 1);
        DunceSee x = Due.told("c94,55;p65;p65;p65;p65");
        share(x, 0, 1, 2);
        share(x, 1, 1, 4);
        share(x, 2, 1, 8);
        share(x, 3, 1, 16);
        DunceSee y = Due.told("c94,5;p61;p62;p63");
        share(y, 0, 1, 8);
        share(y, 1, 1, 4);
        share(y, 2, 1, 2);
        DunceSee z = Due.told("c91,5;p69;p61;p51");
        share(z, 0, 1, 4);
        share(z, 1, 1, 8);
        share(z, 2, 1, 2);
        z.reading(0, 0, 1);
        share(z, 2, 1, 2);
        DunceSee three = Due.told("c94,551;p65;p46");
        share(three, 0, 1, 4);
        share(three, 1, 3, 4);
        DunceSee some = Due.told("c94,50;p66;p45;p09");
        share(some, 0, 1, 4);
        share(some, 1, 1, 8);
        share(some, 2, 5, 8);
        due.is("odds keep no plan", z.stand(0), 0);
        DunceSee changed = Due.told("c94,5;p65;p64");
        changed.wits(0);
        changed.teach(0, 4);
        share(changed, 0, 1, 1);
        changed.hards(0);
        changed.teach(0, 6);
        share(changed, 0, 1, 2);
        changed.doubt(0);
        share(changed, 0, 0, 1);
        Due.plan(changed, 0, 1, 1);
        due.is("no plan is behind wits", changed.wits(0), 1023);
        changed.doubt(9);
        Due.plan(changed, 0, 1, 1);
        changed.reading(0, 1, 5);
        due.is("nobody PRETENDED in wits", changed.wits(0), 31);
        Due.plan(changed, 0, 1, 1);
        due.is("nobody PRETENDED in hards", changed.hards(0), 896);
        Due.plan(changed, 0, 1, 1);
        due.is("nobody PRETENDED in kinds", changed.kinds(0), 0);
    }

    private static void share(DunceSee x, int p, int upper, int lower) {
        due.is("upper of " + p, x.odds(p, 0), upper);
        due.is("lower of " + p, x.odds(p, 1), lower);
    }

    private static void refusalsOfOdds() {
        DunceSee x = Due.told("c42,36;p45;d27");
        due.is("odds(-1, 0)", x.odds(-1, 0), Long.MIN_VALUE);
        due.is("odds(2, 0)", x.odds(2, 0), Long.MIN_VALUE);
        due.is("odds(0, -1)", x.odds(0, -1), Long.MIN_VALUE);
        due.is("odds(0, 2)", x.odds(0, 2), Long.MIN_VALUE);
        x.put(3, 0, 0);
        due.is("odds names no FAULTS", x.odds(2, 0), Long.MIN_VALUE);
        due.is("fault()", x.fault(), 1);
    }
}
