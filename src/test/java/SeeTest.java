/** Promises 1 to 8 and 31: a new object, see, ofPupil, hard, ask, teach, doubt, build, many. */
public final class SeeTest {
    private static final Due due = new Due("SeeTest");

    public static void main(String[] args) {
        aNewObject();
        textsThatAreTaken();
        firstFaults();
        refusalsOfSee();
        faultsOfSee();
        seeReadsLanesAndPlaces();
        aTextMakesAllAnew();
        aTextRefusedChangesNothing();
        pupils();
        days();
        teaching();
        doubting();
        building();
        howMany();
        due.end();
    }

    private static void aNewObject() {
        DunceSee x = new DunceSee();
        for (int what = 0; what <= 4; what++) {
            due.is("new: many(" + what + ")", x.many(what), 0);
        }
        due.is("new: fault()", x.fault(), 0);
        due.is("new: trace()", x.trace(), 0);
        for (int k = 0; k < 4; k++) {
            due.is("new: lose", x.lose(k), 0);
        }
        due.is("new: bishop()", x.bishop(), -3);
        due.is("new: ofPupil(0, 0)", x.ofPupil(0, 0), -1);
        due.is("new: ofPupil(0, 9)", x.ofPupil(0, 9), -1);
        due.is("new: hard(0)", x.hard(0), -1);
        due.is("new: would(0, 0, true)", x.would(0, 0, true), -1);
        due.is("new: reading(0, 0, 0)", x.reading(0, 0, 0), -1);
        due.is("new: back(0)", x.back(0), 0);
        due.is("new: odds(0, 0)", x.odds(0, 0), Long.MIN_VALUE);
    }

    private static void textsThatAreTaken() {
        taken("c01,0;p00", 1, 1);
        taken("c94,99999;p99;d99;u99;p99", 4, 5);
        taken("c32,45;p62", 1, 2);
        taken("c11,123;u45;d67", 2, 3);
        taken("c13,1234;u45;d67;p89", 3, 4);
    }

    private static void taken(String text, int pupils, int days) {
        DunceSee x = new DunceSee();
        due.is(text, Due.see(x, 0, text), pupils);
        due.is(text + " fault()", x.fault(), 0);
        due.is(text + " many(0)", x.many(0), pupils);
        due.is(text + " many(1)", x.many(1), days);
        due.is(text + " many(2)", x.many(2), text.charAt(1) - '0');
        due.is(text + " many(3)", x.many(3), text.charAt(2) - '0');
        for (int d = 0; d < days; d++) {
            due.is(text + " hard(" + d + ")", x.hard(d), text.charAt(4 + d) - '0');
        }
        for (int p = 0; p < pupils; p++) {
            int at = 4 + days + 4 * p;
            due.is(text + " kind", x.ofPupil(p, 0), "pdu".indexOf(text.charAt(at + 1)));
            due.is(text + " WIT", x.ofPupil(p, 1), text.charAt(at + 2) - '0');
            due.is(text + " PATIENCE", x.ofPupil(p, 2), text.charAt(at + 3) - '0');
        }
    }

    private static void firstFaults() {
        String whole = "c42,36159;p45;d27;u68;p53";
        for (int n = 0; n < whole.length(); n++) {
            boolean ends = n == 13 || n == 17 || n == 21;
            broken(whole.substring(0, n), ends ? (n - 9) / 4 : -100 - n);
            broken(whole.substring(0, n) + "x", -100 - n);
            broken(whole.substring(0, n) + "x" + whole.substring(n), -100 - n);
        }
        broken("", -100);
        broken("C42,3;p45", -100);
        broken("c:2,3;p45", -101);
        broken("c/2,3;p45", -101);
        broken("c40,3;p45", -102);
        broken("c45,3;p45", -102);
        broken("c41;3;p45", -103);
        broken("c41,;p45", -104);
        broken("c41,123456;p45", -109);
        broken("c41,12345,p45", -109);
        broken("c41,1;c45", -106);
        broken("c41,1;P45", -106);
        broken("c41,1;p:5", -107);
        broken("c41,1;p4/", -108);
        broken("c41,1;p456", -109);
        broken("c41,1;p45,", -109);
        broken("c41,1;p45p45", -109);
        broken("c41,1;p45;p45;p45;p45;p45", -121);
        broken("c41,1;p45;p45;p45;p45;", -121);
        broken("c41,1;p45;p45;p45;p45", 4);
        broken("c41,1;p45;p45;p45;", -118);
    }

    private static void broken(String text, int want) {
        DunceSee x = new DunceSee();
        x.lose(0);
        due.is("see of \"" + text + "\"", Due.see(x, 0, text), want);
        due.is("fault() behind \"" + text + "\"", x.fault(), 0);
        due.is("many(0) behind \"" + text + "\"", x.many(0), Math.max(want, 0));
    }

    private static void refusalsOfSee() {
        DunceSee x = Due.told("c32,45;p62");
        due.is("see(-1)", x.see(-1, 0, 0, 10), -1);
        due.is("see(4)", x.see(4, 0, 0, 10), -1);
        due.is("see(4, 9)", x.see(4, 9, -1, -1), -1);
        due.is("see lane -1", x.see(0, -1, 0, 10), -2);
        due.is("see lane 3", x.see(0, 3, 0, 10), -2);
        due.is("see lane 3 of nothing", x.see(1, 3, -1, -1), -2);
        due.is("see", x.see(0, 0, 0, 10), 1);
        due.is("a fault", x.put(1, 0, 0), -11);
        due.is("a refusal", x.see(4, 0, 0, 0), -1);
        due.is("fault() behind a refusal", x.fault(), 0);
        due.is("a fault", x.put(1, 0, 0), -11);
        due.is("a refusal", x.see(0, 3, 0, 0), -2);
        due.is("fault() behind a refusal", x.fault(), 0);
        due.is("a fault", x.put(1, 0, 0), -11);
        due.is("a broken text", x.see(0, 0, 1, 0), -100);
        due.is("fault() behind a broken text", x.fault(), 0);
    }

    private static void faultsOfSee() {
        DunceSee x = Due.told("c32,45;p62");
        seeFault(x, 0, 1, 0, 10, 2);
        seeFault(x, 0, 2, -1, -1, 2);
        for (int lane = 0; lane < 3; lane++) {
            seeFault(x, 1, lane, 0, 10, 1);
            seeFault(x, 1, lane, -1, -1, 1);
        }
        seeFault(x, 0, 0, 0, -1, 4);
        seeFault(x, 0, 0, -1, Integer.MIN_VALUE, 4);
        seeFault(x, 0, 0, 99, -1, 4);
        seeFault(x, 0, 0, -1, 10, 3);
        seeFault(x, 0, 0, -1, 0, 3);
        seeFault(x, 0, 0, 11, 0, 3);
        seeFault(x, 0, 0, 0, 11, 3);
        seeFault(x, 0, 0, 1, 10, 3);
        seeFault(x, 0, 0, 1, Integer.MAX_VALUE, 3);
        seeFault(x, 0, 0, Integer.MAX_VALUE, 1, 3);
        seeFault(x, 0, 0, Integer.MAX_VALUE, Integer.MAX_VALUE, 3);
        seeFault(x, 0, 0, Integer.MIN_VALUE, Integer.MAX_VALUE, 3);
        due.is("none of its cells", x.see(0, 0, 10, 0), -100);
        due.is("see is still there", x.many(0), 1);
    }

    private static void seeFault(DunceSee x, int k, int lane, int i, int n, int want) {
        String call = "see(" + k + ", " + lane + ", " + i + ", " + n + ")";
        due.is(call, x.see(k, lane, i, n), -10 - want);
        due.is(call + " fault()", x.fault(), want);
        due.is("fault() stays", x.fault(), want);
    }

    private static void seeReadsLanesAndPlaces() {
        String text = "c21,7;d38";
        for (int lane = 0; lane < 3; lane++) {
            DunceSee x = new DunceSee();
            x.sheet(3, lane, 12);
            for (int i = 0; i < text.length(); i++) {
                x.put(3, i + 2, text.charAt(i));
            }
            due.is("a text in the middle", x.see(3, lane, 2, 9), 1);
            due.is("a text and a cell more", x.see(3, lane, 2, 10), -109);
            due.is("a text and a cell ahead", x.see(3, lane, 1, 10), -100);
            x.put(3, 2, 'c' + 65536);
            due.is("a code beyond a lane", x.see(3, lane, 2, 9), lane == 2 ? -100 : 1);
            x.put(3, 2, 'c' + 256);
            due.is("a code beyond bytes", x.see(3, lane, 2, 9), lane == 0 ? 1 : -100);
        }
    }

    private static void aTextMakesAllAnew() {
        DunceSee x = Due.told("c42,3615;p45;d27;u68;p53");
        x.reading(0, 2, 5);
        x.tell(0);
        due.is("a second text", Due.see(x, 1, "c11,9;u09"), 1);
        due.is("READINGS", x.many(4), 0);
        due.is("PUPILS", x.many(0), 1);
        due.is("DAYS", x.many(1), 1);
        due.is("DOUBT", x.many(2), 1);
        due.is("ROOM", x.many(3), 1);
        due.is("a PUPIL that was", x.ofPupil(1, 0), -1);
        due.is("a DAY that was", x.hard(1), -1);
        due.is("kind", x.ofPupil(0, 0), 2);
        due.is("TRACE stays", x.trace(), 1);
        due.is("SHEETS stay", x.cell(0, 0, 0), 'c');
        due.is("a third text of more PUPILS", Due.see(x, 1, "c11,00000;p00;p00;p00;p00"), 4);
        due.is("nobody would", x.bishop(), -9);
    }

    private static void aTextRefusedChangesNothing() {
        DunceSee x = Due.told("c42,36;p45;d27");
        x.reading(0, 2, 5);
        String[] texts = {"c91,77777;u11;u11;u11;u1", "c91,7;x", "c91,7;u1x", "c9", "c91,7;u11;"};
        for (String text : texts) {
            due.holds(text + " is refused", Due.see(x, 1, text) <= -100);
            due.is("PUPILS", x.many(0), 2);
            due.is("DAYS", x.many(1), 2);
            due.is("DOUBT", x.many(2), 4);
            due.is("ROOM", x.many(3), 2);
            due.is("READINGS", x.many(4), 1);
            due.is("HARD", x.hard(0), 3);
            due.is("kind", x.ofPupil(0, 0), 0);
            due.is("WIT", x.ofPupil(1, 1), 2);
            due.is("PATIENCE", x.ofPupil(1, 2), 7);
        }
    }

    private static void pupils() {
        int[] hoursOfCurate = {0, 0, 1, 1, 2, 2, 3, 3, 4, 4};
        for (int patience = 0; patience <= 9; patience++) {
            DunceSee x = Due.told("c42,36;p4" + patience + ";d2" + patience + ";u6" + patience);
            due.is("HOURS of a PUPIL", x.ofPupil(0, 3), patience);
            due.is("HOURS of a DEACON", x.ofPupil(1, 3), patience == 0 ? 0 : patience - 1);
            due.is("HOURS of a CURATE", x.ofPupil(2, 3), hoursOfCurate[patience]);
            due.is("PATIENCE of a CURATE", x.ofPupil(2, 2), patience);
        }
        DunceSee x = Due.told("c42,36;p45;d27");
        int[] others = {-1, 2, 4, Integer.MIN_VALUE, Integer.MAX_VALUE};
        for (int p : others) {
            due.is("ofPupil(" + p + ", 0)", x.ofPupil(p, 0), -1);
            due.is("ofPupil(" + p + ", 9)", x.ofPupil(p, 9), -1);
        }
        int[] whats = {-1, 4, Integer.MIN_VALUE, Integer.MAX_VALUE};
        for (int what : whats) {
            due.is("ofPupil(1, " + what + ")", x.ofPupil(1, what), -2);
        }
    }

    private static void days() {
        DunceSee x = Due.told("c42,36;p45;d27");
        int[] others = {-1, 2, 5, Integer.MIN_VALUE, Integer.MAX_VALUE};
        for (int d : others) {
            due.is("hard(" + d + ")", x.hard(d), -1);
            due.is("ask(" + d + ", 0)", x.ask(d, 0), -1);
            due.is("ask(" + d + ", 10)", x.ask(d, 10), -1);
        }
        due.is("ask(1, -1)", x.ask(1, -1), -2);
        due.is("ask(1, 10)", x.ask(1, 10), -2);
        due.is("hard(1)", x.hard(1), 6);
        due.is("ask(1, 9)", x.ask(1, 9), 6);
        due.is("ask(1, 0)", x.ask(1, 0), 9);
        due.is("hard(1)", x.hard(1), 0);
        due.is("hard(0)", x.hard(0), 3);
    }

    private static void teaching() {
        DunceSee x = Due.told("c42,36;p45;d27");
        due.is("teach(-1, 0)", x.teach(-1, 0), -1);
        due.is("teach(2, 0)", x.teach(2, 0), -1);
        due.is("teach(2, 10)", x.teach(2, 10), -1);
        due.is("teach(1, -1)", x.teach(1, -1), -2);
        due.is("teach(1, 10)", x.teach(1, 10), -2);
        due.is("WIT", x.ofPupil(1, 1), 2);
        due.is("teach(1, 9)", x.teach(1, 9), 2);
        due.is("teach(1, 0)", x.teach(1, 0), 9);
        due.is("WIT", x.ofPupil(1, 1), 0);
        due.is("WIT of the other", x.ofPupil(0, 1), 4);
        due.is("who stands now", x.stand(0), 2);
    }

    private static void doubting() {
        DunceSee y = new DunceSee();
        due.is("doubt(0) without a SEE", y.doubt(0), -3);
        due.is("doubt(-1) without a SEE", y.doubt(-1), -2);
        due.is("doubt(10) without a SEE", y.doubt(10), -2);
        DunceSee x = Due.told("c42,36;p45;d27");
        due.is("doubt(-1)", x.doubt(-1), -2);
        due.is("doubt(10)", x.doubt(10), -2);
        due.is("DOUBT", x.many(2), 4);
        due.is("doubt(9)", x.doubt(9), 4);
        due.is("doubt(0)", x.doubt(0), 9);
        due.is("DOUBT", x.many(2), 0);
    }

    private static void building() {
        DunceSee y = new DunceSee();
        due.is("build(1) without a SEE", y.build(1), -3);
        due.is("build(0) without a SEE", y.build(0), -2);
        due.is("build(5) without a SEE", y.build(5), -2);
        DunceSee x = Due.told("c42,36;p45;d27");
        due.is("build(0)", x.build(0), -2);
        due.is("build(5)", x.build(5), -2);
        due.is("ROOM", x.many(3), 2);
        due.is("build(4)", x.build(4), 2);
        due.is("build(1)", x.build(1), 4);
        due.is("ROOM", x.many(3), 1);
    }

    private static void howMany() {
        DunceSee x = Due.told("c43,365;p45;d27");
        x.reading(0, 0, 0);
        int[] want = {2, 3, 4, 3, 1};
        for (int what = 0; what < want.length; what++) {
            due.is("many(" + what + ")", x.many(what), want[what]);
        }
        due.is("many(-1)", x.many(-1), -2);
        due.is("many(5)", x.many(5), -2);
        due.is("many(5) of a new one", new DunceSee().many(5), -2);
    }
}
