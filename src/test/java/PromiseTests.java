/** For each promise its ordinary inputs, the edges that the document names, and wrong inputs, worked out by hand. */
public final class PromiseTests extends Check {
    /** By day: house 0 comes to 0 2 1 3 2 4 3 2 1 0 .., house 1 to 2 1 5 4 8 7 11 and is put out on day 6. */
    private static final String TWO = "q5;h3 0;h3 0;g0 9;g1 9;";
    private static final String THREE_STILL = "q0;h1 0;h1 0;h1 0;g0 99;g0 99;g0 99;";
    private static final String FOUR_STILL = "q0;h1 0;h1 0;h1 0;h1 0;g0 99;g0 99;g0 99;g0 99;";
    private static final String SEVEN = "q0;h1 3;h1 4;h1 5;h1 6;h1 7;h1 8;h1 9;" + "g0 99;".repeat(7);
    private static final String BREAD = "q0;h1 20;h1 4;h1 4;h1 4;g3 99;g3 99;g0 99;";

    public static void main(String[] args) {
        about("promise 1"); newObject();
        about("promise 2"); feed();
        about("promise 3"); rowFaults(); rowStarts(); rowAgain(); rowAtFaultChangesNothing(); emptyText();
        about("promise 4"); fault();
        about("promise 5"); toldOfTheRow();
        about("promise 6"); house();
        about("promise 7"); gull();
        about("promise 8"); ahead();
        about("promise 9"); logged();
        about("promise 10"); dayTurns(); dayKinds(); dayRedeems(); dayPutsOut(); dayBounds(); dayRefused();
        about("promise 11"); pay();
        about("promise 12"); bread();
        about("promise 13"); stone();
        about("promise 14"); lend();
        about("promise 15"); swap();
        about("promise 16"); drift();
        about("promise 17"); undoEach(); undoMany();
        about("promise 18"); owes();
        about("promise 19"); firstOut();
        about("promise 20"); outBy();
        about("promise 21"); redeemedBy();
        about("promise 22"); loan();
        about("promise 23"); clear();
        about("promise 24"); bestSwap();
        about("promise 25"); home();
        about("promise 26"); mostBread();
        about("promise 27"); sure();
        about("promise 28"); hear();
        about("promise 29"); gales();
        about("promise 30"); listen();
        about("promise 31"); write();
        about("promise 32"); judge();
        about("promise 33"); tear();
        about("promise 34"); seed();
        about("promise 35"); keep();
        about("promise 36"); goBack();
        end("PromiseTests");
    }

    private static void newObject() {
        GullDeeds x = new GullDeeds();
        noRow(x);
        due("fault()", x.fault(), NONE);
        due("stone(0)", x.stone(0), UNKNOWN);
        due("owes(0, 0)", x.owes(0, 0), UNKNOWN);
        due("firstOut(0)", x.firstOut(0), NONE);
        due("outBy(60)", x.outBy(60), 0);
        due("redeemedBy(60)", x.redeemedBy(60), 0);
        due("loan(60)", x.loan(60), 0);
        due("clear(0)", x.clear(0), 0);
        due("clear(1)", x.clear(1), 0);
        due("bestSwap(60, 0)", x.bestSwap(60, 0), NONE);
        due("gales(0)", x.gales(0), 1);
        due("gales(1)", x.gales(1), 99);
        due("listen()", x.listen(), NONE);
        due("hear(0, 0, true)", x.hear(0, 0, true), UNKNOWN);
        due("write(0, 0)", x.write(0, 0), UNKNOWN);
        due("judge()", x.judge(), NONE);
        due("tear()", x.tear(), 0);
        due("seed(5)", x.seed(5), 0);
        due("keep(0)", x.keep(0), 1);
        due("seed(6)", x.seed(6), 5);
        due("goBack(0)", x.goBack(0), 1);
        due("seed(7)", x.seed(7), 5);
    }

    private static void feed() {
        GullDeeds x = new GullDeeds();
        due("feed(-1)", x.feed(-1), OUTSIDE);
        due("feed(256)", x.feed(256), OUTSIDE);
        due("feed(0)", x.feed(0), 1);
        due("feed(255)", x.feed(255), 2);
        for (int i = 3; i <= 240; i++) due("feed(32) " + i, x.feed(32), i);
        due("feed(32) again", x.feed(32), FULL);
        due("feed(256) when full", x.feed(256), OUTSIDE);
        due("told(3)", x.told(3), 240);
        x.row();
        due("told(3) behind row()", x.told(3), 0);
        due("feed(113) behind row()", x.feed(113), 1);
    }

    private static void rowFaults() {
        reads("q1;", 0, NONE);
        reads(" q 1 , 2 ; h 3 4 ; g 0 9 ; ", 1, NONE);
        reads("q1;h1 0;g0 1;h1 0;g0 1;", 2, NONE);
        reads("q1;" + "h1 0;".repeat(7) + "g0 1;".repeat(7), 7, NONE);
        reads("q1,1,1,1,1,1,1,1,1,1,1,1;", 0, NONE);
        reads("q1,1,1,1,1,1,1,1,1,1,1,1,1;", -11, 24);
        reads("q1,1,1,1,1,1,1,1,1,1,1,1 ,;", -11, 25);
        for (String end : new String[] {"q", "q1", "q1 ", "q1,", "q1;h", "q1;h1", "q1;h1 2", "q1;h1 2;g", "q1;h1 2;g0  "}) {
            reads(end, -11, end.length());
        }
        for (String first : new String[] {"x", "Q1;", ";", "5", ",", "h1 0;", "g0 1;", "\t", "\u00e9"}) reads(first, -11, 0);
        reads("  h1 0;", -11, 2);
        reads("q1;x", -11, 3);
        reads("q1;;", -11, 3);
        reads("q1;5;", -11, 3);
        reads("q1;,", -11, 3);
        reads("q1 2;", -11, 3);
        reads("q1 1000;", -11, 3);
        reads("q1,,2;", -11, 3);
        reads("q,1;", -11, 1);
        reads("q1q1;", -11, 2);
        reads("q\t1;", -11, 1);
        reads("q1;h1,0;", -11, 5);
        reads("q1;h1;", -11, 5);
        reads("q1;h1 0 0;", -11, 8);
        reads("q1;h1 0,0;", -11, 7);
        reads("q1;h1 0h", -11, 7);
        reads("q1;h1 0;g0;", -11, 10);
        reads("q1;h1 0;g0 1,1;", -11, 12);
        reads("q99;", 0, NONE);
        reads("q099;", 0, NONE);
        reads("q0;", 0, NONE);
        reads("q100;", -12, 1);
        reads("q  100;", -12, 3);
        reads("q1234;", -12, 1);
        reads("q0001;", -12, 1);
        reads("q1000x", -12, 1);
        reads("q" + "9".repeat(239), -12, 1);
        reads("q4294967297;", -12, 1);
        reads("q1,100", -12, 3);
        reads("q1;h0 0;", -12, 4);
        reads("q1;h10 0;", -12, 4);
        reads("q1;h12;", -12, 4);
        reads("q1;h9 99;", 1, NONE);
        reads("q1;h9 100;", -12, 6);
        reads("q1;h1 0;g3 99;", 1, NONE);
        reads("q1;h1 0;g4 1;", -12, 9);
        reads("q1;h1 0;g0 0;", -12, 11);
        reads("q1;h1 0;g0 100;", -12, 11);
        reads("q1;q1;", -13, 3);
        reads("q1;h1 0; q", -13, 9);
        reads("q1;" + "h1 0;".repeat(8), -13, 38);
        reads("q1;g0 1;", -13, 3);
        reads("q1;h1 0;g0 1;g0 1;", -13, 13);
        reads("q1;" + "h1 0;".repeat(7) + "g0 1;".repeat(8), -13, 73);
    }

    private static void rowStarts() {
        GullDeeds x = told(TWO);
        x.seed(77);
        x.day(8);
        x.lend(3);
        x.keep(0);
        x.keep(1);
        x.lend(3);
        x.hear(0, 0, true);
        x.write(0, 0);
        feedAll(x, "q1,2;h1 5;h2 6;h3 7;g0 8;g2 9;");
        due("row()", x.row(), 3);
        int[] want = {2, 3, 2, 0, 0, 0, 0, 3, 4, 0, 11, 0, 1, 1, 0, 0, 0, 0};
        for (int what = 0; what < want.length; what++) due("told(" + what + ")", x.told(what), want[what]);
        due("undo(1)", x.undo(1), NOT);
        due("goBack(0)", x.goBack(0), NOT);
        due("goBack(1)", x.goBack(1), NOT);
        due("logged(0, 0)", x.logged(0, 0), NONE);
        due("seed(0)", x.seed(0), 77);
        for (int h = 0; h < 3; h++) {
            due("house(" + h + ", 4)", x.house(h, 4), 0);
            due("house(" + h + ", 5)", x.house(h, 5), 0);
        }
    }

    private static void rowAgain() {
        GullDeeds x = told("q9;h1 9;h1 0;h1 9;g3 9;g0 9;g0 9;");
        x.bread(0, 4);
        x.day(3);
        feedAll(x, "q9,9;h2 1;h2 2;g0 1;");
        due("row() of two", x.row(), 2);
        for (int what = 4; what < 6; what++) {
            due("house(0, " + what + ")", x.house(0, what), 0);
            due("house(1, " + what + ")", x.house(1, what), 0);
        }
        feedAll(x, "q5;h3 7;");
        due("row() of one", x.row(), 1);
        due("told(0)", x.told(0), 1);
        due("told(2)", x.told(2), 0);
        due("house(0, 1)", x.house(0, 1), 7);
        feedAll(x, TWO);
        x.row();
        x.day(4);
        due("logged(0, 0)", x.logged(0, 0), 3);
        due("logged(3, 0)", x.logged(3, 0), 0);
        due("logged(4, 0)", x.logged(4, 0), NONE);
    }

    private static void rowAtFaultChangesNothing() {
        GullDeeds x = told(TWO);
        x.day(8);
        x.keep(0);
        x.lend(3);
        x.hear(0, 0, true);
        x.write(0, 0);
        String was = picture(x);
        feedAll(x, "q1;h1 0;h1 0;h1 0;x");
        due("row()", x.row(), -11);
        alike("the row behind a fault", picture(x), was);
        due("told(0)", x.told(0), 1);
        due("told(1)", x.told(1), 2);
        due("told(2)", x.told(2), 2);
        due("told(3)", x.told(3), 0);
        due("told(15)", x.told(15), 1);
        due("told(16)", x.told(16), 1);
        due("undo(1)", x.undo(1), 8);
        due("goBack(0)", x.goBack(0), 1);
    }

    private static void emptyText() {
        for (String text : new String[] {"", "  "}) {
            GullDeeds x = told(TWO);
            x.day(3);
            x.write(0, 0);
            feedAll(x, text);
            due("row() of nothing", x.row(), 0);
            due("fault()", x.fault(), NONE);
            noRow(x);
        }
    }

    private static void fault() {
        GullDeeds x = new GullDeeds();
        due("fault()", x.fault(), NONE);
        feedAll(x, "q1;x");
        due("fault() ahead of row()", x.fault(), NONE);
        x.row();
        due("fault()", x.fault(), 3);
        due("fault() again", x.fault(), 3);
        feedAll(x, "q1");
        due("fault() till the next row()", x.fault(), 3);
        x.row();
        due("fault() at the end", x.fault(), 2);
        feedAll(x, "q1;");
        x.row();
        due("fault() without", x.fault(), NONE);
    }

    private static void toldOfTheRow() {
        GullDeeds x = told("q12,6,9;h3 4;h5 7;h2 7;h4 2;g0 9;g1 12;g2 15;");
        x.feed('q');
        int[] first = {3, 4, 3, 1, 0, 0, 0, 7, 8, 0, 18, 0, 3, 1, 0, 0, 0, 0};
        for (int what = 0; what < first.length; what++) due("told(" + what + ")", x.told(what), first[what]);
        x.stone(1);
        x.swap(0, 1);
        x.lend(8);
        x.hear(0, 0, true);
        x.hear(0, 0, true);
        x.write(0, 4);
        int[] then = {3, 4, 3, 1, 0, 8, 1, 5, 8, 2, 11, 2, 3, 2, 0, 2, 1, 3};
        for (int what = 0; what < then.length; what++) due("told(" + what + ") then", x.told(what), then[what]);
        GullDeeds y = told("q0;h3 4;h3 4;g0 99;");
        y.day(25);
        due("told(4)", y.told(4), 25);
        due("told(14)", y.told(14), 20);
        due("told(12) of one", y.told(12), 0);
        due("told(13) of one", y.told(13), 0);
        y.stone(0);
        due("told(12) of none", y.told(12), 0);
        due("told(13) of none", y.told(13), NONE);
        due("told(10) of none", y.told(10), 0);
        GullDeeds z = told(SEVEN);
        z.swap(0, 6);
        int[] seven = {1, 7, 7, 0, 0, 0, 0, 127, 0, 0, 42, 2, 6, 6, 0, 0, 0, 1};
        for (int what = 0; what < seven.length; what++) due("told(" + what + ") of seven", z.told(what), seven[what]);
        for (int what : new int[] {-1, 18, LOW, HIGH}) due("told(" + what + ")", x.told(what), OUTSIDE);
    }

    private static void house() {
        GullDeeds x = told("q0;h3 14;h5 7;h2 6;h4 2;g3 99;g1 12;g2 15;");
        x.bread(0, 6);
        x.stone(1);
        x.swap(1, 2);
        int[][] want = {{3, 8, 0, 0, 0, 6}, {5, 7, 2, 2, 0, 0}, {2, 6, 0, 1, 0, 0}, {4, 2, 1, NONE, 0, 0}};
        for (int h = 0; h < 4; h++) for (int what = 0; what < 6; what++) due("house(" + h + ", " + what + ")", x.house(h, what), want[h][what]);
        for (int h : new int[] {-1, 4, 7, LOW, HIGH}) {
            due("house(" + h + ", 0)", x.house(h, 0), UNKNOWN);
            due("house(" + h + ", 6)", x.house(h, 6), UNKNOWN);
        }
        for (int what : new int[] {-1, 6, LOW, HIGH}) due("house(0, " + what + ")", x.house(0, what), OUTSIDE);
        GullDeeds y = told("q9;h1 0;g0 5;");
        y.day(3);
        due("house(0, 4)", y.house(0, 4), 3);
    }

    private static void gull() {
        GullDeeds x = told("q9;h1 0;h1 50;h1 50;g3 99;g1 98;");
        due("gull(0, 0)", x.gull(0, 0), 3);
        due("gull(0, 1)", x.gull(0, 1), 99);
        due("gull(0, 2)", x.gull(0, 2), 0);
        due("gull(1, 0)", x.gull(1, 0), 1);
        due("gull(1, 1)", x.gull(1, 1), 98);
        x.swap(0, 1);
        due("gull(0, 2) swapped", x.gull(0, 2), 1);
        due("gull(1, 2) swapped", x.gull(1, 2), 0);
        x.stone(1);
        due("gull(0, 2) of an empty one", x.gull(0, 2), 1);
        x.day(7);
        due("gull(1, 2) redeemed", x.gull(1, 2), NONE);
        for (int g : new int[] {-1, 2, LOW, HIGH}) {
            due("gull(" + g + ", 0)", x.gull(g, 0), UNKNOWN);
            due("gull(" + g + ", 3)", x.gull(g, 3), UNKNOWN);
        }
        for (int what : new int[] {-1, 3, LOW, HIGH}) due("gull(0, " + what + ")", x.gull(0, what), OUTSIDE);
    }

    private static void ahead() {
        GullDeeds x = told("q4,0,99;");
        int[] want = {4, 0, 99};
        for (int n = 0; n <= 60; n++) due("ahead(" + n + ")", x.ahead(n), want[n % 3]);
        x.day(2);
        due("ahead(0) behind 2", x.ahead(0), 99);
        due("ahead(1) behind 2", x.ahead(1), 4);
        for (int n : new int[] {-1, 61, LOW, HIGH}) {
            due("ahead(" + n + ")", x.ahead(n), OUTSIDE);
            due("ahead(" + n + ") without a row", new GullDeeds().ahead(n), OUTSIDE);
        }
    }

    private static void logged() {
        GullDeeds x = told(TWO);
        due("logged(0, 0)", x.logged(0, 0), NONE);
        x.day(3);
        int[][] want = {{2, 1, 2}, {1, 0, 2}, {0, 1, 1}, {NONE, NONE, NONE}};
        for (int i = 0; i < 4; i++) for (int what = 0; what < 3; what++) due("logged(" + i + ", " + what + ")", x.logged(i, what), want[i][what]);
        for (int i : new int[] {-1, 20, LOW, HIGH}) {
            due("logged(" + i + ", 0)", x.logged(i, 0), NONE);
            due("logged(" + i + ", 3)", x.logged(i, 3), OUTSIDE);
        }
        for (int what : new int[] {-1, 3, LOW, HIGH}) due("logged(0, " + what + ")", x.logged(0, what), OUTSIDE);
        GullDeeds y = told("q0;h9 0;h8 0;g2 1;g2 1;");
        y.day(11);
        due("told(14)", y.told(14), 20);
        due("logged(0, 0)", y.logged(0, 0), 10);
        due("logged(0, 1)", y.logged(0, 1), 1);
        due("logged(0, 2)", y.logged(0, 2), 8);
        due("logged(1, 1)", y.logged(1, 1), 0);
        due("logged(19, 0)", y.logged(19, 0), 1);
        due("logged(19, 1)", y.logged(19, 1), 1);
        due("logged(18, 1)", y.logged(18, 1), 0);
        due("logged(20, 0)", y.logged(20, 0), NONE);
    }

    private static void dayTurns() {
        int[] debt0 = {0, 2, 1, 3, 2, 4, 3, 2, 1, 0};
        int[] debt1 = {2, 1, 5, 4, 8, 7, 11, 11, 11, 11};
        int[] stock = {0, 0, 0, 0, 0, 0, 0, 1, 2, 3};
        GullDeeds x = told(TWO);
        for (int i = 0; i < 10; i++) {
            due("day(1) of day " + i, x.day(1), stock[i]);
            due("house(0, 1) of day " + i, x.house(0, 1), debt0[i]);
            due("house(1, 1) of day " + i, x.house(1, 1), debt1[i]);
            due("told(9) of day " + i, x.told(9), i < 6 ? 0 : 2);
            due("told(4) of day " + i, x.told(4), i + 1);
        }
        due("house(0, 4)", x.house(0, 4), 1);
        GullDeeds y = told(TWO);
        due("day(10)", y.day(10), 3);
        alike("ten days at once", picture(y), picture(x));
    }

    private static void dayKinds() {
        GullDeeds x = told("q0;h3 1;h3 1;h3 1;h3 1;h3 1;g0 99;g1 99;g2 1;g3 99;");
        x.day(1);
        int[] want = {4, 7, 4, 4, 1};
        for (int h = 0; h < 5; h++) due("house(" + h + ", 1)", x.house(h, 1), want[h]);
        due("told(9): a white one puts nobody out", x.told(9), 0);
        GullDeeds y = told("q3;h3 5;g0 99;");
        y.day(1);
        due("house(0, 1): no head more without stock", y.house(0, 1), 5);
        GullDeeds w = told("q4;h3 5;g0 99;");
        due("day(1)", w.day(1), 0);
        due("house(0, 1): the last head goes to it", w.house(0, 1), 4);
        GullDeeds z = told("q0,9;");
        due("day(1) of a row without houses", z.day(1), 0);
        due("day(30) of a row without houses", z.day(30), 135);
    }

    private static void dayRedeems() {
        GullDeeds x = told("q9;h1 1;g0 5;");
        x.day(6);
        due("house(0, 4) behind 6 good days", x.house(0, 4), 6);
        due("house(0, 2) behind 6 good days", x.house(0, 2), 0);
        due("day(1)", x.day(1), 55);
        due("house(0, 4) redeemed", x.house(0, 4), 7);
        due("house(0, 2) redeemed", x.house(0, 2), 1);
        due("house(0, 3) redeemed", x.house(0, 3), NONE);
        due("gull(0, 2) redeemed", x.gull(0, 2), NONE);
        due("day(1) pays no more", x.day(1), 64);
        due("house(0, 4) stays", x.house(0, 4), 7);
        GullDeeds y = told("q1,1,1,1,1,1,0;h1 0;g0 5;");
        y.day(6);
        due("house(0, 4)", y.house(0, 4), 6);
        y.day(1);
        due("house(0, 4) behind a bad day", y.house(0, 4), 0);
        due("house(0, 2) behind a bad day", y.house(0, 2), 0);
    }

    private static void dayPutsOut() {
        GullDeeds x = told("q0;h9 0;g0 9;");
        x.day(1);
        due("house(0, 2): not above P", x.house(0, 2), 0);
        x.day(1);
        due("house(0, 2): above P", x.house(0, 2), 2);
        due("house(0, 1)", x.house(0, 1), 18);
        due("house(0, 3)", x.house(0, 3), 0);
        due("told(6)", x.told(6), 1);
        x.day(5);
        due("house(0, 1) stays", x.house(0, 1), 18);
        due("told(6) stays", x.told(6), 1);
        due("told(14) stays", x.told(14), 2);
        GullDeeds y = told("q9;h1 9;g3 8;");
        y.day(1);
        due("house(0, 2): one head more came first", y.house(0, 2), 0);
    }

    private static void dayBounds() {
        GullDeeds x = told("q0;h9 99;g2 1;");
        for (int i = 0; i < 37; i++) x.day(30);
        due("house(0, 1) at most", x.house(0, 1), 9999);
        due("logged(0, 2)", x.logged(0, 2), 9);
        GullDeeds y = told("q99;");
        for (int i = 0; i < 3; i++) y.day(30);
        due("day(11)", y.day(11), 9999);
        due("day(1) at most", y.day(1), 9999);
    }

    private static void dayRefused() {
        GullDeeds x = told("q0;");
        for (int n : new int[] {0, -1, 31, LOW, HIGH}) {
            due("day(" + n + ")", x.day(n), OUTSIDE);
            due("day(" + n + ") without a row", new GullDeeds().day(n), OUTSIDE);
        }
        for (int i = 0; i < 300; i++) x.day(30);
        due("told(4)", x.told(4), 9000);
        due("day(1) at 9000", x.day(1), 0);
        due("day(1) at 9001", x.day(1), FULL);
        due("day(31) at 9001", x.day(31), OUTSIDE);
        due("drift(1) at 9001", x.drift(1), FULL);
        due("undo(1)", x.undo(1), 9000);
        due("drift(30) at 9000", x.drift(30), x.told(5));
        due("told(4) behind it", x.told(4), 9030);
    }

    private static void pay() {
        GullDeeds x = told("q0;h1 20;h1 4;h1 4;g0 99;g0 99;");
        due("pay(0, 1) without stock", x.pay(0, 1), NOT);
        x.lend(10);
        due("pay(0, 11)", x.pay(0, 11), NOT);
        due("pay(1, 5)", x.pay(1, 5), NOT);
        due("pay(2, 1) of a free one", x.pay(2, 1), NOT);
        due("pay(1, 4)", x.pay(1, 4), 0);
        due("told(5)", x.told(5), 6);
        due("pay(0, 6)", x.pay(0, 6), 14);
        due("told(5)", x.told(5), 0);
        due("house(0, 4)", x.house(0, 4), 0);
        x.lend(9);
        x.stone(0);
        due("pay(0, 1) of an empty one", x.pay(0, 1), NOT);
        due("told(5)", x.told(5), 9);
        for (int h : new int[] {-1, 3, LOW, HIGH}) due("pay(" + h + ", 0)", x.pay(h, 0), UNKNOWN);
        for (int n : new int[] {-1, 0, 100, LOW, HIGH}) due("pay(0, " + n + ")", x.pay(0, n), OUTSIDE);
        GullDeeds y = told("q99;h9 99;g2 1;");
        y.lend(99);
        due("pay(0, 99)", y.pay(0, 99), 0);
    }

    private static void bread() {
        GullDeeds x = told(BREAD);
        x.lend(7);
        due("bread(2, 1) to another kind", x.bread(2, 1), NOT);
        due("bread(3, 1) of a free one", x.bread(3, 1), NOT);
        due("bread(1, 5)", x.bread(1, 5), NOT);
        due("bread(0, 9)", x.bread(0, 9), 11);
        due("house(0, 5)", x.house(0, 5), 9);
        due("house(0, 2)", x.house(0, 2), 0);
        due("told(5): no heads go", x.told(5), 7);
        due("bread(0, 1)", x.bread(0, 1), 10);
        due("house(0, 5)", x.house(0, 5), 10);
        due("house(0, 2)", x.house(0, 2), 2);
        due("told(6)", x.told(6), 1);
        due("bread(0, 1) of an empty one", x.bread(0, 1), NOT);
        due("swap(1, 2)", x.swap(1, 2), 2);
        due("bread(1, 1) to the other gull", x.bread(1, 1), NOT);
        due("bread(2, 4)", x.bread(2, 4), 0);
        for (int h : new int[] {-1, 4, LOW, HIGH}) due("bread(" + h + ", 0)", x.bread(h, 0), UNKNOWN);
        for (int n : new int[] {-1, 0, 10, LOW, HIGH}) due("bread(3, " + n + ")", x.bread(3, n), OUTSIDE);
    }

    private static void stone() {
        GullDeeds x = told("q9;h1 5;h1 4;h1 4;g0 99;g0 99;");
        due("stone(2) of a free one", x.stone(2), 1);
        due("stone(0)", x.stone(0), 2);
        due("stone(0) again", x.stone(0), NOT);
        due("told(9)", x.told(9), 5);
        due("house(0, 1)", x.house(0, 1), 5);
        due("house(0, 3)", x.house(0, 3), 0);
        x.day(1);
        due("house(0, 1) behind a day", x.house(0, 1), 5);
        due("told(5)", x.told(5), 7);
        for (int h : new int[] {-1, 3, LOW, HIGH}) due("stone(" + h + ")", x.stone(h), UNKNOWN);
    }

    private static void lend() {
        GullDeeds x = told("q0;");
        due("lend(1)", x.lend(1), 1);
        due("lend(999)", x.lend(999), 1000);
        for (int i = 2; i <= 10; i++) x.lend(999);
        due("lend(10)", x.lend(10), 9999);
        due("lend(1) at most", x.lend(1), 9999);
        for (int n : new int[] {-1, 0, 1000, LOW, HIGH}) {
            due("lend(" + n + ")", x.lend(n), OUTSIDE);
            due("lend(" + n + ") without a row", new GullDeeds().lend(n), OUTSIDE);
        }
    }

    private static void swap() {
        GullDeeds x = told("q99;h1 0;h1 0;h1 0;h1 0;g0 99;g1 98;g2 97;");
        x.day(3);
        due("swap(2, 0)", x.swap(2, 0), 0);
        due("gull(0, 2)", x.gull(0, 2), 2);
        due("gull(2, 2)", x.gull(2, 2), 0);
        due("house(0, 4)", x.house(0, 4), 0);
        due("house(1, 4)", x.house(1, 4), 3);
        due("house(2, 4)", x.house(2, 4), 0);
        due("swap(0, 3)", x.swap(0, 3), NOT);
        due("swap(3, 0)", x.swap(3, 0), NOT);
        x.stone(1);
        due("swap(0, 1) of an empty one", x.swap(0, 1), 1);
        due("house(1, 2)", x.house(1, 2), 2);
        due("house(1, 3)", x.house(1, 3), 2);
        for (int h = 0; h < 4; h++) due("swap(" + h + ", " + h + ")", x.swap(h, h), UNKNOWN);
        for (int h : new int[] {-1, 4, LOW, HIGH}) {
            due("swap(" + h + ", 0)", x.swap(h, 0), UNKNOWN);
            due("swap(3, " + h + ")", x.swap(3, h), UNKNOWN);
        }
        GullDeeds y = told("q9;h1 0;h1 50;g0 99;g0 99;");
        y.day(7);
        due("swap(0, 1) of a redeemed one", y.swap(0, 1), NOT);
    }

    private static long draws;

    private static int draw(int n) {
        draws = (draws * 1103515245L + 12345L) % (1L << 31);
        return (int) (draws / 65536 % n);
    }

    /** A day by draws is the deed that is drawn, and a day. */
    private static void drift() {
        String[] rows = {"q9,0,14;h3 9;h2 4;h4 30;g0 99;g1 99;g2 97;", "q7;h5 20;g0 99;", "q3;", "q5;h2 20;h3 20;g0 99;g1 99;"};
        for (String row : rows) {
            int houses = told(row).told(1);
            for (int start : new int[] {0, 43, 2147483647}) {
                GullDeeds x = told(row);
                x.seed(start);
                draws = start;
                GullDeeds y = told(row);
                for (int i = 0; i < 25; i++) {
                    int deed = draw(6);
                    if (deed == 0) y.lend(draw(20));
                    if (deed == 1 && houses > 1) y.swap(draw(houses), draw(houses));
                    if (deed == 2 && houses > 0) y.pay(draw(houses), draw(10));
                    y.day(1);
                }
                due("drift(25)", x.drift(25), y.told(5));
                alike("25 days by draws", picture(x), picture(y));
                due("told(17)", x.told(17), 25);
                due("seed(0)", x.seed(0), (int) draws);
            }
        }
        GullDeeds x = told("q0;");
        for (int n : new int[] {0, -1, 31, LOW, HIGH}) {
            due("drift(" + n + ")", x.drift(n), OUTSIDE);
            due("drift(" + n + ") without a row", new GullDeeds().drift(n), OUTSIDE);
        }
        due("seed(0) behind refusals", x.seed(0), 0);
    }

    private static void undoEach() {
        GullDeeds x = told("q2;h1 20;h9 4;h1 4;g3 99;g1 20;g0 99;");
        String[] was = new String[8];
        was[0] = picture(x);
        x.lend(9);
        was[1] = picture(x);
        x.pay(1, 4);
        was[2] = picture(x);
        x.bread(0, 9);
        was[3] = picture(x);
        x.bread(0, 1);
        was[4] = picture(x);
        x.swap(0, 2);
        was[5] = picture(x);
        x.stone(2);
        was[6] = picture(x);
        x.day(4);
        due("told(17)", x.told(17), 10);
        x.pay(0, 1);
        x.stone(0);
        x.swap(0, 0);
        x.lend(0);
        x.bread(1, 1);
        due("told(17): nothing for what is refused", x.told(17), 10);
        due("undo(4)", x.undo(4), 0);
        for (int i = 6; i >= 0; i--) {
            alike("what is so behind " + i + " deeds", picture(x), was[i]);
            due("undo(1) " + i, x.undo(1), i > 0 ? 0 : NOT);
        }
        due("told(17)", x.told(17), 0);
    }

    private static void undoMany() {
        GullDeeds x = told("q0;h1 0;g0 99;");
        for (int i = 0; i < 31; i++) x.lend(1);
        due("told(17)", x.told(17), 30);
        due("undo(30)", x.undo(30), 0);
        due("told(5)", x.told(5), 1);
        due("undo(1)", x.undo(1), NOT);
        x.day(5);
        due("undo(6)", x.undo(6), NOT);
        due("undo(2)", x.undo(2), 3);
        due("told(17)", x.told(17), 3);
        due("undo(3)", x.undo(3), 0);
        x.seed(9);
        x.drift(3);
        int then = x.seed(9);
        x.seed(then);
        due("undo(3) by draws", x.undo(3), 0);
        due("seed() stays", x.seed(0), then);
        for (int n : new int[] {0, -1, 31, LOW, HIGH}) due("undo(" + n + ")", x.undo(n), OUTSIDE);
        x.day(30);
        x.day(30);
        due("undo(30) of days", x.undo(30), 30);
        for (int i = 0; i < 20; i++) due("logged(" + i + ", 0) as it was", x.logged(i, 0), 29 - i);
        x.lend(1);
        x.keep(1);
        due("undo(1) behind keep", x.undo(1), NOT);
        x.lend(1);
        x.goBack(1);
        due("undo(1) behind goBack", x.undo(1), NOT);
    }

    private static void owes() {
        GullDeeds x = told(TWO);
        String was = picture(x);
        int[] debt0 = {0, 0, 2, 1, 3, 2, 4, 3, 2, 1, 0};
        for (int n = 0; n <= 10; n++) due("owes(0, " + n + ")", x.owes(0, n), debt0[n]);
        due("owes(1, 6)", x.owes(1, 6), 7);
        due("owes(1, 60)", x.owes(1, 60), 11);
        alike("what is so", picture(x), was);
        due("told(17)", x.told(17), 0);
        for (int h : new int[] {-1, 2, LOW, HIGH}) due("owes(" + h + ", 61)", x.owes(h, 61), UNKNOWN);
        for (int n : new int[] {-1, 61, LOW, HIGH}) due("owes(0, " + n + ")", x.owes(0, n), OUTSIDE);
    }

    private static void firstOut() {
        GullDeeds x = told(TWO);
        due("firstOut(0)", x.firstOut(0), 1);
        due("firstOut(1)", x.firstOut(1), 7);
        x.day(4);
        due("firstOut(1) behind 4 days", x.firstOut(1), 3);
        x.day(3);
        due("firstOut(0): one that is out already", x.firstOut(0), NONE);
        due("firstOut(1): one that is out already", x.firstOut(1), NONE);
        GullDeeds y = told("q0;h9 0;h9 0;h9 0;g0 20;g0 20;g0 20;");
        due("firstOut(0): day 2 begins with house 2", y.firstOut(0), 2);
        due("firstOut(1)", y.firstOut(1), 3);
        GullDeeds z = told("q0;h1 39;h1 38;g0 98;g0 98;");
        due("firstOut(0) on the 60th day", z.firstOut(0), 0);
        due("firstOut(1) on the 60th day", z.firstOut(1), 60);
        due("firstOut(0) on the 61st day", told("q0;h1 38;g0 98;").firstOut(0), NONE);
        for (int what : new int[] {-1, 2, LOW, HIGH}) due("firstOut(" + what + ")", x.firstOut(what), OUTSIDE);
    }

    private static void outBy() {
        GullDeeds x = told(TWO);
        due("outBy(0)", x.outBy(0), 0);
        due("outBy(6)", x.outBy(6), 0);
        due("outBy(7)", x.outBy(7), 2);
        due("outBy(60)", x.outBy(60), 2);
        x.day(7);
        due("outBy(60): one that is out already", x.outBy(60), 0);
        GullDeeds y = told("q0;h9 0;h9 0;h9 0;g0 20;g0 20;g0 20;");
        due("outBy(2)", y.outBy(2), 0);
        due("outBy(3)", y.outBy(3), 7);
        y.stone(1);
        due("outBy(3) behind a stone", y.outBy(3), 5);
        for (int n : new int[] {-1, 61, LOW, HIGH}) due("outBy(" + n + ")", x.outBy(n), OUTSIDE);
    }

    private static void redeemedBy() {
        GullDeeds x = told(TWO);
        due("redeemedBy(0)", x.redeemedBy(0), 0);
        due("redeemedBy(15)", x.redeemedBy(15), 0);
        due("redeemedBy(16)", x.redeemedBy(16), 1);
        due("redeemedBy(60)", x.redeemedBy(60), 1);
        x.day(16);
        due("told(8)", x.told(8), 1);
        due("redeemedBy(60): one that is so already", x.redeemedBy(60), 0);
        GullDeeds y = told("q99;h1 0;h1 3;h1 0;g0 9;g2 9;");
        due("redeemedBy(7)", y.redeemedBy(7), 1);
        due("redeemedBy(9)", y.redeemedBy(9), 3);
        GullDeeds z = told("q99;" + "h1 0;".repeat(7) + "g1 9;".repeat(7));
        due("redeemedBy(7) of seven", z.redeemedBy(7), 127);
        z.day(7);
        due("gull(6, 2) behind it", z.gull(6, 2), NONE);
        for (int n : new int[] {-1, 61, LOW, HIGH}) due("redeemedBy(" + n + ")", x.redeemedBy(n), OUTSIDE);
    }

    private static void loan() {
        GullDeeds x = told(TWO);
        String was = picture(x);
        due("loan(0)", x.loan(0), 0);
        due("loan(6)", x.loan(6), 0);
        due("loan(7)", x.loan(7), 2);
        due("loan(8)", x.loan(8), 2);
        alike("what is so", picture(x), was);
        x.day(7);
        due("loan(60): one that is out already", x.loan(60), 0);
        // Six pay 9 each, and the seventh is put out by 9 that lack, but not by 8.
        GullDeeds y = told("q0;" + "h9 0;".repeat(7) + "g0 8;".repeat(7));
        due("loan(1) of seven", y.loan(1), 55);
        // A single one: 7 good days by 9 each, and it is redeemed; with a head less it lacks 1, and 9 the day behind.
        GullDeeds w = told("q0;h9 0;g0 9;");
        due("loan(1) of one", w.loan(1), 0);
        due("loan(2) of one", w.loan(2), 9);
        due("loan(60) of one", w.loan(60), 63);
        GullDeeds z = told("q0;" + "h9 99;".repeat(7) + "g0 1;".repeat(7));
        due("loan(1) that no loan does for", z.loan(1), NONE);
        due("loan(0)", z.loan(0), 0);
        GullDeeds v = told("q0;h9 99;h9 99;g0 99;g0 99;");
        int lent = 0;
        while (v.loan(60) == NONE && lent < 400) {
            v.lend(1);
            lent++;
        }
        due("lent, till a loan does: some", lent > 0 && lent < 400 ? 1 : 0, 1);
        due("loan(60) at most", v.loan(60), 999);
        v.lend(1);
        due("loan(60) with one more in stock", v.loan(60), 998);
        for (int n : new int[] {-1, 61, LOW, HIGH}) due("loan(" + n + ")", x.loan(n), OUTSIDE);
    }

    private static void clear() {
        GullDeeds x = told("q0;h1 5;h1 3;h1 3;h1 1;h1 0;g0 99;g0 99;g0 99;");
        due("clear(0) without stock", x.clear(0), 0);
        due("clear(1) without stock", x.clear(1), 0);
        x.lend(2);
        due("clear(0) of 2: a free one has no say", x.clear(0), 0);
        x.lend(1);
        due("clear(0) of 3", x.clear(0), 1);
        due("clear(1) of 3", x.clear(1), 2);
        x.lend(3);
        due("clear(0) of 6", x.clear(0), 2);
        due("clear(1) of 6", x.clear(1), 6);
        x.lend(2);
        due("clear(1) of 8: the least set", x.clear(1), 3);
        x.lend(3);
        due("clear(0) of 11", x.clear(0), 3);
        due("clear(1) of 11", x.clear(1), 7);
        x.stone(1);
        due("clear(1) without an empty one", x.clear(1), 5);
        x.pay(0, 5);
        due("clear(1) without one that has no debt", x.clear(1), 4);
        due("told(5)", x.told(5), 6);
        GullDeeds y = told(SEVEN);
        y.lend(3);
        due("clear(1) of the first", y.clear(1), 1);
        y.lend(38);
        due("clear(0) of six", y.clear(0), 6);
        due("clear(1) of six: the least set", y.clear(1), 63);
        y.lend(1);
        due("clear(1) of seven", y.clear(1), 127);
        for (int what : new int[] {-1, 2, LOW, HIGH}) due("clear(" + what + ")", x.clear(what), OUTSIDE);
    }

    private static void bestSwap() {
        GullDeeds x = told("q0;h9 0;h1 0;g0 8;g0 99;");
        String was = picture(x);
        due("bestSwap(0, 0)", x.bestSwap(0, 0), NONE);
        due("bestSwap(0, 1)", x.bestSwap(0, 1), NONE);
        due("bestSwap(1, 0)", x.bestSwap(1, 0), 1);
        due("bestSwap(1, 1)", x.bestSwap(1, 1), 0);
        due("bestSwap(8, 0)", x.bestSwap(8, 0), 1);
        due("bestSwap(9, 0): no better", x.bestSwap(9, 0), NONE);
        due("bestSwap(9, 1): no better", x.bestSwap(9, 1), NONE);
        alike("what is so", picture(x), was);
        GullDeeds y = told("q0;h1 0;h1 0;h9 0;h1 0;g0 5;g0 99;g0 8;g0 99;");
        // 9 heads are too much for gull 0: house 2 needs gull 1 or gull 3; within 6 days gull 0 puts out house 0, too.
        due("bestSwap(1, 0): of like ones the least", y.bestSwap(1, 0), 102);
        due("bestSwap(1, 1)", y.bestSwap(1, 1), 0);
        due("bestSwap(6, 0): gull 2 has patience with house 0", y.bestSwap(6, 0), 2);
        due("bestSwap(6, 1)", y.bestSwap(6, 1), 1);
        y.stone(1);
        due("bestSwap(6, 0): gull 0 at an empty one", y.bestSwap(6, 0), 1);
        due("bestSwap(1, 0) of TWO", told(TWO).bestSwap(7, 0), NONE);
        GullDeeds w = told("q0;h1 0;h1 0;h9 0;h9 0;" + "g2 1;".repeat(2) + "g0 99;g0 99;");
        w.stone(0);
        w.stone(1);
        due("bestSwap(1, 0): those that are out already do not count", w.bestSwap(1, 0), NONE);
        GullDeeds v = told("q0;" + "h1 0;".repeat(6) + "h9 0;" + "g0 7;".repeat(5) + "g0 99;g0 8;");
        due("bestSwap(7, 0) of seven", v.bestSwap(7, 0), 506);
        due("bestSwap(7, 1) of seven", v.bestSwap(7, 1), 0);
        GullDeeds z = told("q0;h9 0;h1 0;g0 8;");
        due("bestSwap(1, 0): a free one cannot be swapped", z.bestSwap(1, 0), NONE);
        for (int n : new int[] {-1, 61, LOW, HIGH}) due("bestSwap(" + n + ", 0)", x.bestSwap(n, 0), OUTSIDE);
        for (int what : new int[] {-1, 2, LOW, HIGH}) due("bestSwap(1, " + what + ")", x.bestSwap(1, what), OUTSIDE);
    }

    private static void home() {
        GullDeeds x = told(THREE_STILL);
        due("home(0)", x.home(0), 1);
        x.swap(0, 1);
        due("home(0) of two", x.home(0), 2);
        due("home(1) of two", x.home(1), 2);
        due("home(2)", x.home(2), 1);
        x.swap(1, 2);
        for (int g = 0; g < 3; g++) due("home(" + g + ") of three", x.home(g), 3);
        due("told(11)", x.told(11), 3);
        GullDeeds y = told("q9;h1 0;h1 50;h1 50;g0 99;g0 99;");
        y.swap(0, 1);
        y.day(7);
        due("home(0): house 1, whose gull holds none", y.home(0), NONE);
        due("home(1): it holds nothing", y.home(1), NONE);
        due("told(11)", y.told(11), 1);
        for (int g : new int[] {-1, 2, 3, LOW, HIGH}) due("home(" + g + ")", y.home(g), UNKNOWN);
        GullDeeds z = told("q0;" + "h1 0;".repeat(7) + "g0 99;".repeat(7));
        for (int h = 0; h < 6; h++) z.swap(h, h + 1);
        for (int g = 0; g < 7; g++) due("home(" + g + ") of seven", z.home(g), 7);
    }

    private static void mostBread() {
        GullDeeds x = told(BREAD);
        due("mostBread(0)", x.mostBread(0), 9);
        due("mostBread(1)", x.mostBread(1), 4);
        due("mostBread(2): another kind", x.mostBread(2), NONE);
        due("mostBread(3): free", x.mostBread(3), NONE);
        x.bread(0, 5);
        due("mostBread(0) behind 5", x.mostBread(0), 4);
        x.bread(0, 4);
        due("mostBread(0) behind 9", x.mostBread(0), 0);
        x.stone(1);
        due("mostBread(1): empty", x.mostBread(1), NONE);
        for (int h : new int[] {-1, 4, LOW, HIGH}) due("mostBread(" + h + ")", x.mostBread(h), UNKNOWN);
    }

    private static void sure() {
        GullDeeds x = new GullDeeds();
        due("sure(0, 0)", x.sure(0, 0), 1000000000);
        due("sure(1, 0)", x.sure(1, 0), 0);
        due("sure(60, 100)", x.sure(60, 100), 1000000000);
        due("sure(3, 33)", x.sure(3, 33), 35937000);
        due("sure(6, 33): cut each time", x.sure(6, 33), 1291467);
        due("sure(60, 1)", x.sure(60, 1), 0);
        due("sure(4, 1)", x.sure(4, 1), 10);
        due("sure(60, 99)", x.sure(60, 99), 547156620);
        for (int n : new int[] {-1, 61, LOW, HIGH}) due("sure(" + n + ", 50)", x.sure(n, 50), OUTSIDE);
        for (int q : new int[] {-1, 101, LOW, HIGH}) due("sure(1, " + q + ")", x.sure(1, q), OUTSIDE);
    }

    private static void hear() {
        GullDeeds x = told("q0;h1 0;h1 0;h1 0;g0 9;g0 9;");
        for (int i = 1; i <= 6; i++) due("hear(0, 2, true)", x.hear(0, 2, true), i);
        due("hear(0, 2, true) again", x.hear(0, 2, true), FULL);
        due("told(15)", x.told(15), 6);
        for (int g : new int[] {-1, 2, LOW, HIGH}) due("hear(" + g + ", 0, true)", x.hear(g, 0, true), UNKNOWN);
        for (int h : new int[] {-1, 3, LOW, HIGH}) due("hear(0, " + h + ", false)", x.hear(0, h, false), UNKNOWN);
        x.lend(1);
        x.undo(1);
        due("told(15) behind undo", x.told(15), 6);
        due("tear()", x.tear(), 6);
        due("hear(1, 1, false)", x.hear(1, 1, false), 1);
    }

    private static void gales() {
        GullDeeds x = told(FOUR_STILL);
        due("gales(0)", x.gales(0), 7);
        due("gales(1)", x.gales(1), 1);
        x.hear(0, 0, true);
        due("gales(0) with 0 at 0", x.gales(0), 4);
        due("gales(1) with 0 at 0", x.gales(1), 12);
        x.hear(2, 2, false);
        due("gales(0) with 2 not at 2", x.gales(0), 2);
        x.hear(1, 2, false);
        due("gales(1) with 1 not at 2", x.gales(1), 23);
        x.hear(3, 3, true);
        due("gales(0) of none that fits", x.gales(0), 0);
        due("gales(1) of none that fits", x.gales(1), NONE);
        x.tear();
        for (int g = 0; g < 3; g++) x.hear(g, g, true);
        due("gales(0): all at home", x.gales(0), 1);
        due("gales(1): all at home", x.gales(1), 99);
        x.swap(0, 1);
        due("gales(0): as it is now", x.gales(0), 1);
        due("gales(1): as it is now", x.gales(1), 1);
        GullDeeds y = told("q9;h1 0;h1 50;h1 50;g0 99;g0 99;g0 99;");
        y.day(7);
        due("gales(0) without a gull that is gone", y.gales(0), 2);
        due("gales(1) without a gull that is gone", y.gales(1), 12);
        y.stone(1);
        due("gales(0) with the gull of an empty one", y.gales(0), 2);
        y.hear(0, 0, false);
        due("gales(0): the gull that is gone was not there", y.gales(0), 2);
        y.hear(0, 0, true);
        due("gales(0): the gull that is gone was there", y.gales(0), 0);
        GullDeeds z = told(SEVEN);
        due("gales(0) of seven", z.gales(0), 22);
        z.hear(6, 5, true);
        due("gales(1) with 6 at 5", z.gales(1), 56);
        z.tear();
        z.hear(3, 1, true);
        due("gales(0) with 3 at 1", z.gales(0), 1);
        due("gales(1) with 3 at 1", z.gales(1), 13);
        z.tear();
        z.hear(1, 4, true);
        due("gales(1) with 1 at 4", z.gales(1), 14);
        z.tear();
        for (int g = 1; g < 6; g++) z.hear(g, g, true);
        due("gales(0) with all but 0 and 6 at home", z.gales(0), 2);
        due("gales(1) with all but 0 and 6 at home", z.gales(1), 6);
        for (int what : new int[] {-1, 2, LOW, HIGH}) due("gales(" + what + ")", x.gales(what), OUTSIDE);
    }

    private static void listen() {
        GullDeeds x = told(FOUR_STILL);
        due("listen()", x.listen(), 0);
        x.hear(0, 0, true);
        due("listen() with 0 at 0", x.listen(), 1);
        x.hear(1, 1, true);
        due("listen() with 1 at 1", x.listen(), 2);
        x.hear(2, 2, true);
        due("listen(): one is left", x.listen(), NONE);
        x.hear(2, 2, false);
        due("listen(): none is left", x.listen(), NONE);
        GullDeeds y = told("q0;h1 0;h1 0;g0 99;");
        due("listen(): no pair", y.listen(), NONE);
        GullDeeds z = told(FOUR_STILL);
        z.hear(0, 0, false);
        // 01, 02, 03: house 0 tells all three apart, the others one from two.
        due("listen() with 0 not at 0", z.listen(), 0);
        GullDeeds w = told("q9;h1 0;h1 50;h1 50;h1 50;g0 99;g0 99;g0 99;g0 99;");
        w.day(7);
        due("listen(): nothing at house 0", w.listen(), 1);
        GullDeeds v = told(SEVEN);
        for (int g = 0; g < 5; g++) v.hear(g, g, true);
        due("listen(): 56 or none", v.listen(), 5);
        due("listen() again", v.listen(), 5);
        v.tear();
        v.swap(5, 6);
        for (int g = 0; g < 5; g++) v.hear(g, g, true);
        due("listen() once more", v.listen(), 5);
    }

    private static void write() {
        GullDeeds x = told(TWO);
        due("write(0, 0)", x.write(0, 0), 1);
        due("write(1, 9999)", x.write(1, 9999), 2);
        for (int n : new int[] {-1, 10000, LOW, HIGH}) due("write(0, " + n + ")", x.write(0, n), OUTSIDE);
        for (int h : new int[] {-1, 2, LOW, HIGH}) due("write(" + h + ", -1)", x.write(h, -1), UNKNOWN);
        for (int i = 3; i <= 20; i++) due("write(0, 0)", x.write(0, 0), i);
        due("write(0, 0) again", x.write(0, 0), FULL);
        due("write(0, -1) when full", x.write(0, -1), OUTSIDE);
        due("told(16)", x.told(16), 20);
        x.lend(1);
        x.undo(1);
        due("told(16) behind undo", x.told(16), 20);
    }

    private static void judge() {
        GullDeeds x = told("q0;h1 5;h1 3;g0 99;");
        due("judge() of no book", x.judge(), NONE);
        x.write(1, 3);
        x.write(0, 5);
        due("judge()", x.judge(), NONE);
        x.write(0, 6);
        x.write(1, 2);
        due("judge() of the third", x.judge(), 2);
        x.day(1);
        due("judge() behind a day: the second is otherwise", x.judge(), 1);
        x.undo(1);
        due("judge() behind undo", x.judge(), 2);
        x.tear();
        x.write(1, 4);
        x.write(1, 4);
        due("judge() of the first", x.judge(), 0);
    }

    private static void tear() {
        GullDeeds x = told(TWO);
        due("tear() of nothing", x.tear(), 0);
        x.hear(0, 0, true);
        x.write(0, 1);
        x.write(0, 2);
        due("tear()", x.tear(), 3);
        due("told(15)", x.told(15), 0);
        due("told(16)", x.told(16), 0);
        due("judge()", x.judge(), NONE);
        due("tear() again", x.tear(), 0);
    }

    private static void seed() {
        GullDeeds x = new GullDeeds();
        due("seed(5)", x.seed(5), 0);
        due("seed(-1)", x.seed(-1), OUTSIDE);
        due("seed(LOW)", x.seed(LOW), OUTSIDE);
        due("seed(HIGH)", x.seed(HIGH), 5);
        due("seed(0)", x.seed(0), HIGH);
        feedAll(x, "q1;");
        x.row();
        x.drift(1);
        // The first draw makes 12345, whose draw of 6 is 0: heads are lent, by a second draw.
        due("seed(0) behind a day by draws", x.seed(0), (int) ((12345L * 1103515245L + 12345L) % 2147483648L));
    }

    private static void keep() {
        GullDeeds x = told(TWO);
        x.day(2);
        due("keep(0)", x.keep(0), 1);
        due("told(17)", x.told(17), 0);
        String first = picture(x);
        x.day(2);
        due("keep(1)", x.keep(1), 1);
        String second = picture(x);
        x.day(2);
        x.goBack(0);
        alike("image 0", picture(x), first);
        x.goBack(1);
        alike("image 1", picture(x), second);
        x.lend(1);
        x.keep(0);
        String third = picture(x);
        x.day(9);
        x.goBack(0);
        alike("image 0 kept anew", picture(x), third);
        for (int i : new int[] {-1, 2, LOW, HIGH}) due("keep(" + i + ")", x.keep(i), UNKNOWN);
        x.lend(1);
        x.keep(2);
        due("told(17): nothing changes by a refusal", x.told(17), 1);
    }

    private static void goBack() {
        GullDeeds x = told("q2;h1 20;h9 4;h1 4;g3 99;g1 20;g0 99;");
        due("goBack(0)", x.goBack(0), NOT);
        x.bread(0, 3);
        x.day(3);
        x.seed(4);
        x.keep(0);
        due("goBack(1)", x.goBack(1), NOT);
        String was = picture(x);
        x.bread(0, 7);
        x.swap(0, 2);
        x.drift(9);
        x.hear(0, 0, true);
        x.write(0, 0);
        due("goBack(0)", x.goBack(0), 1);
        alike("what is so", picture(x), was);
        due("told(17)", x.told(17), 0);
        due("told(15): what is heard stays", x.told(15), 1);
        due("told(16): the book stays", x.told(16), 1);
        due("seed(0)", x.seed(0), 4);
        x.day(4);
        due("goBack(0) again", x.goBack(0), 1);
        alike("what is so again", picture(x), was);
        due("seed(0) again", x.seed(0), 4);
        for (int i : new int[] {-1, 2, LOW, HIGH}) due("goBack(" + i + ")", x.goBack(i), UNKNOWN);
    }
}
