/** Section 2 and promises 5 to 17, 34 to 36: each sentence that names a boundary, at it and one beyond it. */
public final class DeedBoundaryTests extends Check {
    private static final String SEVEN_WHITE = "q1;" + "h1 0;".repeat(7) + "g2 1;".repeat(7);

    public static void main(String[] args) {
        emptyHeldFree();
        stockAtMost();
        debtAtMost();
        catchesRound();
        housesRound();
        paysWhatTheStockHas();
        addedByKind();
        oneHeadMore();
        goodDays();
        redeemedAtSeven();
        putOutAboveP();
        logKeepsTwenty();
        toldBounds();
        toldSets();
        houseAndGullBounds();
        aheadBounds();
        loggedBounds();
        dayBounds();
        dayFull();
        payBounds();
        breadBounds();
        breadWeight();
        stoneBounds();
        lendBounds();
        swapBounds();
        driftBounds();
        drawsThatAreMade();
        seedBounds();
        undoBounds();
        undoKeepsThirty();
        undoSinceTextOrImage();
        imageBounds();
        lastCall();
        end("DeedBoundaryTests");
    }

    private static void emptyHeldFree() {
        about("A HOUSE is EMPTY (a GULL may hold it, or not), else HELD, or FREE; PUT OUT: counted");
        GullDeeds x = told("q0;h1 0;h1 0;h1 0;h1 0;g0 9;g0 9;");
        x.stone(1);
        x.stone(3);
        int[][] want = {{0, 0}, {2, 1}, {1, NONE}, {2, NONE}};
        for (int h = 0; h < 4; h++) {
            due("house(" + h + ", 2)", x.house(h, 2), want[h][0]);
            due("house(" + h + ", 3)", x.house(h, 3), want[h][1]);
        }
        due("told(6)", x.told(6), 2);
        due("stone(2)", x.stone(2), 3);
    }

    private static void stockAtMost() {
        about("THE STOCK of heads is 0 at first (9999 at most)");
        GullDeeds x = told("q1;");
        due("told(5)", x.told(5), 0);
        lendAll(x, 9998);
        due("told(5)", x.told(5), 9998);
        due("day(1) to 9999", x.day(1), 9999);
        due("day(1) beyond", x.day(1), 9999);
        due("day(30) beyond", x.day(30), 9999);
        GullDeeds y = told("q0;");
        lendAll(y, 9998);
        due("lend(1) to 9999", y.lend(1), 9999);
        due("lend(1) beyond", y.lend(1), 9999);
        due("lend(999) beyond", y.lend(999), 9999);
        due("told(17): it is a deed all the same", y.told(17), 14);
        due("drift(1) beyond: heads are drawn on 0", y.drift(1), 9999);
        y.undo(4);
        due("told(5)", y.told(5), 9998);
        due("lend(2) beyond", y.lend(2), 9999);
        GullDeeds z = told("q99;h9 0;g2 1;");
        lendAll(z, 9999);
        due("day(1): no more than 9999 are there to pay of", z.day(1), 9990);
        GullDeeds w = told("q99;h9 5;g2 1;");
        lendAll(w, 9999);
        due("day(1): 9 and one more", w.day(1), 9989);
    }

    private static void debtAtMost() {
        about("ADDED to its DEBT (9999 at most)");
        GullDeeds x = told("q0;h9 99;g2 1;");
        days(x, 1099);
        due("house(0, 1) behind 1099 days", x.house(0, 1), 9990);
        x.day(1);
        due("house(0, 1) at most", x.house(0, 1), 9999);
        x.day(1);
        due("house(0, 1) beyond", x.house(0, 1), 9999);
        due("logged(0, 0): it cries all the same", x.logged(0, 0), 1100);
        due("logged(0, 2)", x.logged(0, 2), 9);
        due("told(10)", x.told(10), 9999);
        due("write(0, 9999)", x.write(0, 9999), 1);
        due("judge()", x.judge(), NONE);
        GullDeeds y = told("q0;h9 95;h1 0;g2 1;g1 99;");
        days(y, 1100);
        due("house(0, 1)", y.house(0, 1), 9995);
        due("owes(0, 1)", y.owes(0, 1), 9999);
        due("owes(0, 60)", y.owes(0, 60), 9999);
        y.swap(0, 1);
        y.day(1);
        due("house(0, 1) by twice 9", y.house(0, 1), 9999);
        due("house(0, 2): above P of the other", y.house(0, 2), 2);
    }

    private static void catchesRound() {
        about("DAY k: the number of k left over by how many");
        GullDeeds x = told("q1,2,3,4,5,6,7,8,9,10,11,12;");
        int stock = 0;
        for (int k = 0; k < 26; k++) {
            stock += 1 + k % 12;
            due("day(1) of day " + k, x.day(1), stock);
        }
        GullDeeds y = told("q5;");
        due("day(1)", y.day(1), 5);
        due("day(1)", y.day(1), 10);
        GullDeeds z = told("q5,0;");
        due("day(1)", z.day(1), 5);
        due("day(1)", z.day(1), 5);
        due("day(1)", z.day(1), 10);
    }

    private static void housesRound() {
        about("HOUSE by HOUSE, beginning with that of DAY left over by how many there are, and round");
        GullDeeds x = told(SEVEN_WHITE);
        for (int k = 0; k < 16; k++) {
            x.day(1);
            // The one head of the day is for the house whose turn comes first; the others cry in their turn.
            for (int i = 0; i < 6; i++) due("logged(" + i + ", 1) of day " + k, x.logged(i, 1), (k + 6 - i) % 7);
            due("logged(5, 0) of day " + k, x.logged(5, 0), k);
            due("logged(6, 0) of day " + k, x.logged(6, 0), k - 1);
        }
        GullDeeds y = told("q1;h1 0;h1 0;g2 1;");
        y.day(2);
        due("house(0, 1): one that is FREE pays nothing", y.house(0, 1), 0);
        due("told(14)", y.told(14), 0);
    }

    private static void pays(int stock, int debt, int then, int left, int lacked) {
        GullDeeds x = told("q" + stock + ";h9 " + debt + ";g2 1;");
        due("day(1) with " + stock, x.day(1), left);
        due("house(0, 1) with " + stock, x.house(0, 1), then);
        due("told(14) with " + stock, x.told(14), lacked > 0 ? 1 : 0);
        due("logged(0, 2) with " + stock, x.logged(0, 2), lacked > 0 ? lacked : NONE);
    }

    private static void paysWhatTheStockHas() {
        about("one that is HELD pays N, or what THE STOCK has, if that is less");
        pays(0, 0, 9, 0, 9);
        pays(1, 0, 8, 0, 8);
        pays(8, 0, 1, 0, 1);
        pays(9, 0, 0, 0, 0);
        pays(10, 0, 0, 1, 0);
    }

    private static void addedByKind() {
        about("by KIND of its GULL 0: so much; 1 (a black back): twice; 2 (a white one): so much; 3: so much");
        int[] times = {1, 2, 1, 1};
        for (int kind = 0; kind <= 3; kind++) {
            GullDeeds x = told("q2;h3 7;g" + kind + " 99;");
            x.day(1);
            due("house(0, 1) by kind " + kind, x.house(0, 1), 7 + times[kind]);
            due("logged(0, 2) by kind " + kind, x.logged(0, 2), 1);
            due("day(1)", x.day(1), 0);
            due("house(0, 1) by kind " + kind, x.house(0, 1), 7 + 2 * times[kind]);
        }
    }

    private static void oneHeadMore() {
        about("If nothing lacked, and DEBT is above 0, and THE STOCK has some, one head more goes to its DEBT");
        pays(8, 5, 6, 0, 1);
        pays(9, 5, 5, 0, 0);
        pays(10, 5, 4, 0, 0);
        pays(11, 5, 4, 1, 0);
        pays(10, 1, 0, 0, 0);
        pays(10, 0, 0, 1, 0);
    }

    private static void goodDays() {
        about("If DEBT is 0 then, its GOOD DAYS are one more, else they are 0");
        GullDeeds x = told("q2;h1 2;g2 1;");
        x.day(1);
        due("house(0, 4) with DEBT 1", x.house(0, 4), 0);
        x.day(1);
        due("house(0, 4) with DEBT 0 by the head more", x.house(0, 4), 1);
        x.day(5);
        due("house(0, 4)", x.house(0, 4), 6);
        GullDeeds y = told("q1,1,1,1,1,1,0;h1 0;g2 9;");
        y.day(6);
        due("house(0, 4) of six", y.house(0, 4), 6);
        y.day(1);
        due("house(0, 4) behind a bad day", y.house(0, 4), 0);
        y.day(6);
        due("house(0, 4) as long as there is DEBT", y.house(0, 4), 0);
        due("house(0, 1)", y.house(0, 1), 1);
        GullDeeds z = told("q1;h1 0;h1 0;g2 1;g2 1;");
        z.day(1);
        due("house(0, 4)", z.house(0, 4), 1);
        due("house(1, 4): another one's", z.house(1, 4), 0);
    }

    private static void redeemedAtSeven() {
        about("behind 7 GOOD DAYS it is REDEEMED: FREE, its GULL is gone for good, GOOD DAYS stay 7");
        GullDeeds x = told("q3;h1 0;h1 9;g0 1;g2 9;");
        x.day(6);
        due("house(0, 4) of six", x.house(0, 4), 6);
        due("house(0, 2) of six", x.house(0, 2), 0);
        due("gull(0, 2) of six", x.gull(0, 2), 0);
        due("told(8) of six", x.told(8), 0);
        x.day(1);
        due("house(0, 4) of seven", x.house(0, 4), 7);
        due("house(0, 2) of seven", x.house(0, 2), 1);
        due("house(0, 3) of seven", x.house(0, 3), NONE);
        due("gull(0, 2) of seven", x.gull(0, 2), NONE);
        due("told(8) of seven", x.told(8), 1);
        due("swap(0, 1) of seven", x.swap(0, 1), NOT);
        x.day(30);
        due("house(0, 4) later", x.house(0, 4), 7);
        due("gull(0, 2) later", x.gull(0, 2), NONE);
        due("house(0, 1) later", x.house(0, 1), 0);
        x.stone(0);
        due("house(0, 4) EMPTY", x.house(0, 4), 7);
        GullDeeds w = told("q99;" + "h1 0;".repeat(7) + "g0 1;".repeat(7));
        w.day(6);
        due("told(8) of six", w.told(8), 0);
        w.day(1);
        due("told(8) of seven", w.told(8), 127);
        for (int g = 0; g < 7; g++) due("gull(" + g + ", 2) of seven", w.gull(g, 2), NONE);
        due("told(10)", w.told(10), 0);
        due("told(11)", w.told(11), 0);
        due("told(13)", w.told(13), NONE);
        about("GOOD DAYS of both are 0 by a gale: not REDEEMED then");
        GullDeeds y = told("q9;h1 0;h1 0;g0 9;g0 9;");
        y.day(6);
        y.swap(0, 1);
        y.day(1);
        due("house(0, 4)", y.house(0, 4), 1);
        due("told(7)", y.told(7), 3);
        y.day(5);
        due("told(7) of six", y.told(7), 3);
        y.day(1);
        due("told(8) of seven", y.told(8), 3);
        about("one that is EMPTY has no GOOD DAYS more");
        GullDeeds z = told("q9;h1 0;g0 9;");
        z.day(6);
        z.stone(0);
        z.day(9);
        due("house(0, 4)", z.house(0, 4), 6);
        due("house(0, 3)", z.house(0, 3), 0);
    }

    private static void putOutAboveP() {
        about("If DEBT is above P of its GULL, and that is not of KIND 2: it is PUT OUT; its DEBT stays");
        for (int kind = 0; kind <= 3; kind++) {
            int added = kind == 1 ? 2 : 1;
            int white = kind == 2 ? 1 : 0;
            for (int p : new int[] {2, 99}) {
                GullDeeds x = told("q0;h1 " + (p - added) + ";g" + kind + " " + p + ";");
                x.day(1);
                due("house(0, 1) = P " + p, x.house(0, 1), p);
                due("house(0, 2) with DEBT = P " + p, x.house(0, 2), 0);
                due("told(6)", x.told(6), 0);
                x.day(1);
                due("house(0, 1) above P " + p, x.house(0, 1), p + added);
                due("house(0, 2) with DEBT above P " + p, x.house(0, 2), white == 1 ? 0 : 2);
                due("told(6) by kind " + kind, x.told(6), 1 - white);
                x.day(1);
                due("house(0, 1) the day behind", x.house(0, 1), p + added + added * white);
                due("told(6) by kind " + kind, x.told(6), 1 - white);
                due("house(0, 3)", x.house(0, 3), 0);
            }
        }
        about("PUT OUT: behind the head more, and if nothing lacked, too");
        GullDeeds x = told("q2;h1 99;g0 98;");
        x.day(1);
        due("house(0, 2) with DEBT 98", x.house(0, 2), 0);
        GullDeeds y = told("q1;h1 99;g0 98;");
        y.day(1);
        due("house(0, 2) with DEBT 99", y.house(0, 2), 2);
        due("told(14)", y.told(14), 0);
    }

    private static void logKeepsTwenty() {
        about("THE LOG keeps the latest 20 CRIES");
        GullDeeds x = told("q0;h9 0;g2 1;");
        days(x, 19);
        due("told(14)", x.told(14), 19);
        due("logged(18, 0)", x.logged(18, 0), 0);
        due("logged(19, 0)", x.logged(19, 0), NONE);
        x.day(1);
        due("told(14)", x.told(14), 20);
        due("logged(19, 0)", x.logged(19, 0), 0);
        due("logged(20, 0)", x.logged(20, 0), NONE);
        x.day(1);
        due("told(14)", x.told(14), 20);
        due("logged(0, 0)", x.logged(0, 0), 20);
        due("logged(19, 0)", x.logged(19, 0), 1);
        due("logged(20, 0)", x.logged(20, 0), NONE);
        x.day(20);
        for (int i = 0; i < 20; i++) due("logged(" + i + ", 0)", x.logged(i, 0), 40 - i);
        x.undo(21);
        due("told(14)", x.told(14), 20);
        for (int i = 0; i < 20; i++) due("logged(" + i + ", 0) undone", x.logged(i, 0), 19 - i);
        x.undo(1);
        due("told(14)", x.told(14), 19);
        due("logged(18, 0)", x.logged(18, 0), 0);
    }

    private static void toldBounds() {
        about("told: 0 .. 17. OUTSIDE");
        GullDeeds x = told("q3,3;h1 0;g0 1;");
        x.lend(7);
        due("told(0)", x.told(0), 2);
        due("told(-1)", x.told(-1), OUTSIDE);
        due("told(17)", x.told(17), 1);
        due("told(18)", x.told(18), OUTSIDE);
        due("told(LOW)", x.told(LOW), OUTSIDE);
        due("told(HIGH)", x.told(HIGH), OUTSIDE);
    }

    private static void toldSets() {
        about("told: 7 HELD, 8 FREE, 9 EMPTY (SETS of HOUSES), bit k for k");
        GullDeeds x = told(SEVEN_WHITE);
        due("told(7) of seven", x.told(7), 127);
        for (int h = 0; h < 7; h++) {
            x.stone(h);
            due("told(7) without " + h, x.told(7), 127 - (2 << h) + 1);
            due("told(9) with " + h, x.told(9), (2 << h) - 1);
            due("told(8)", x.told(8), 0);
        }
        due("told(8)", told("q1;" + "h1 0;".repeat(7)).told(8), 127);
        due("told(8)", told("q1;" + "h1 0;".repeat(7) + "g0 1;".repeat(6)).told(8), 64);
        about("told: 12 GAP: 0 without; 13 WORST: of like ones the least; NONE");
        GullDeeds y = told("q0;h1 3;h1 9;h1 9;h1 1;h1 99;g0 99;g0 99;g0 99;g0 99;");
        due("told(10)", y.told(10), 22);
        due("told(12)", y.told(12), 8);
        due("told(13)", y.told(13), 1);
        y.stone(1);
        due("told(13)", y.told(13), 2);
        y.stone(2);
        due("told(12) of two", y.told(12), 2);
        y.stone(0);
        due("told(12) of one", y.told(12), 0);
        due("told(13) of one", y.told(13), 3);
        y.stone(3);
        due("told(10) of none", y.told(10), 0);
        due("told(12) of none", y.told(12), 0);
        due("told(13) of none", y.told(13), NONE);
        GullDeeds w = told("q0;h1 1;h1 2;h1 3;h1 4;h1 5;h1 6;h1 7;" + "g0 99;".repeat(7));
        due("told(10) of seven", w.told(10), 28);
        due("told(12) of seven: from the first to the last", w.told(12), 6);
        due("told(13) of seven: the last", w.told(13), 6);
        GullDeeds z = told("q0;h1 0;h1 0;g0 99;g0 99;");
        due("told(12) of like ones", z.told(12), 0);
        due("told(13) without DEBT", z.told(13), 0);
    }

    private static void houseAndGullBounds() {
        about("house: what = 0 .. 5. UNKNOWN, OUTSIDE");
        GullDeeds x = told("q0;h4 30;h5 31;h6 32;g3 98;g3 99;");
        x.bread(0, 6);
        due("house(0, 0)", x.house(0, 0), 4);
        due("house(0, 5)", x.house(0, 5), 6);
        due("house(0, -1)", x.house(0, -1), OUTSIDE);
        due("house(0, 6)", x.house(0, 6), OUTSIDE);
        due("house(2, 0)", x.house(2, 0), 6);
        due("house(3, 0)", x.house(3, 0), UNKNOWN);
        due("house(-1, 0)", x.house(-1, 0), UNKNOWN);
        due("house(2, 3)", x.house(2, 3), NONE);
        about("gull: what = 0 .. 2. UNKNOWN, OUTSIDE");
        due("gull(0, 0)", x.gull(0, 0), 3);
        due("gull(0, -1)", x.gull(0, -1), OUTSIDE);
        due("gull(1, 2)", x.gull(1, 2), 1);
        due("gull(1, 3)", x.gull(1, 3), OUTSIDE);
        due("gull(2, 0): there is a HOUSE 2, but no GULL", x.gull(2, 0), UNKNOWN);
        due("gull(-1, 0)", x.gull(-1, 0), UNKNOWN);
        for (int far : new int[] {LOW, HIGH}) {
            due("house(far, 0)", x.house(far, 0), UNKNOWN);
            due("house(0, far)", x.house(0, far), OUTSIDE);
            due("gull(far, 0)", x.gull(far, 0), UNKNOWN);
            due("gull(0, far)", x.gull(0, far), OUTSIDE);
        }
    }

    private static void aheadBounds() {
        about("CATCH behind n DAYS (0 .. 60). OUTSIDE, NOT: no ROW");
        GullDeeds x = told("q1,2,3,4,5,6,7;");
        due("ahead(0)", x.ahead(0), 1);
        due("ahead(-1)", x.ahead(-1), OUTSIDE);
        due("ahead(60)", x.ahead(60), 5);
        due("ahead(61)", x.ahead(61), OUTSIDE);
        x.day(6);
        due("ahead(0) on the last", x.ahead(0), 7);
        due("ahead(1) round", x.ahead(1), 1);
        x.day(1);
        due("ahead(0) round", x.ahead(0), 1);
        days(x, 8993);
        due("ahead(60) behind 9000", x.ahead(60), 1 + 9060 % 7);
        GullDeeds y = new GullDeeds();
        due("ahead(0) without a ROW", y.ahead(0), NOT);
        due("ahead(60) without a ROW", y.ahead(60), NOT);
        due("ahead(61) without a ROW", y.ahead(61), OUTSIDE);
        due("ahead(LOW)", x.ahead(LOW), OUTSIDE);
        due("ahead(HIGH)", x.ahead(HIGH), OUTSIDE);
    }

    private static void loggedBounds() {
        about("Of THE LOG, 0 the latest: what = 0 .. 2; NONE. OUTSIDE (what)");
        GullDeeds x = told("q0;h7 0;h8 0;g2 1;g1 99;");
        for (int what = 0; what <= 2; what++) due("logged(0, " + what + ") of none", x.logged(0, what), NONE);
        x.day(1);
        due("logged(0, 0)", x.logged(0, 0), 0);
        due("logged(0, 1)", x.logged(0, 1), 1);
        due("logged(0, 2)", x.logged(0, 2), 8);
        due("logged(1, 1)", x.logged(1, 1), 0);
        due("logged(1, 2)", x.logged(1, 2), 7);
        due("logged(2, 0)", x.logged(2, 0), NONE);
        due("logged(-1, 0)", x.logged(-1, 0), NONE);
        due("logged(LOW, 0)", x.logged(LOW, 0), NONE);
        due("logged(HIGH, 0)", x.logged(HIGH, 0), NONE);
        for (int what : new int[] {-1, 3, LOW, HIGH}) {
            due("logged(0, " + what + ")", x.logged(0, what), OUTSIDE);
            due("logged(2, " + what + ")", x.logged(2, what), OUTSIDE);
        }
    }

    private static void dayBounds() {
        about("n DAYS (1 .. 30): THE STOCK. OUTSIDE, NOT: no ROW");
        GullDeeds x = told("q1;");
        due("day(0)", x.day(0), OUTSIDE);
        due("day(1)", x.day(1), 1);
        due("day(30)", x.day(30), 31);
        due("day(31)", x.day(31), OUTSIDE);
        due("day(-1)", x.day(-1), OUTSIDE);
        due("told(4)", x.told(4), 31);
        GullDeeds y = new GullDeeds();
        due("day(1)", y.day(1), NOT);
        due("day(30)", y.day(30), NOT);
        due("day(0)", y.day(0), OUTSIDE);
        due("day(31)", y.day(31), OUTSIDE);
    }

    private static void dayFull() {
        about("FULL: DAYS are above 9000");
        GullDeeds x = told("q0;");
        days(x, 9000);
        due("told(4)", x.told(4), 9000);
        due("day(1) at 9000", x.day(1), 0);
        due("day(1) at 9001", x.day(1), FULL);
        due("day(30) at 9001", x.day(30), FULL);
        due("drift(1) at 9001", x.drift(1), FULL);
        due("day(0) at 9001", x.day(0), OUTSIDE);
        due("day(31) at 9001", x.day(31), OUTSIDE);
        due("drift(0) at 9001", x.drift(0), OUTSIDE);
        due("drift(31) at 9001", x.drift(31), OUTSIDE);
        due("told(4)", x.told(4), 9001);
        due("seed(0): nothing is drawn", x.seed(0), 0);
        due("lend(1) at 9001", x.lend(1), 1);
        due("undo(2)", x.undo(2), 9000);
        due("day(30) at 9000", x.day(30), 0);
        due("told(4)", x.told(4), 9030);
        due("day(1) at 9030", x.day(1), FULL);
        due("undo(30)", x.undo(30), 9000);
        due("drift(30) at 9000", x.drift(30) == x.told(5) ? 1 : 0, 1);
        due("told(4)", x.told(4), 9030);
        due("drift(1) at 9030", x.drift(1), FULL);
        due("firstOut(0) at 9030", x.firstOut(0), NONE);
    }

    private static void payBounds() {
        about("PAID (n 1 .. 99): DEBT. OUTSIDE");
        GullDeeds x = told("q0;h9 99;g2 1;");
        x.day(10);
        x.lend(500);
        due("house(0, 1)", x.house(0, 1), 189);
        due("pay(0, 0)", x.pay(0, 0), OUTSIDE);
        due("pay(0, 1)", x.pay(0, 1), 188);
        due("pay(0, 100)", x.pay(0, 100), OUTSIDE);
        due("pay(0, 99)", x.pay(0, 99), 89);
        due("pay(0, -1)", x.pay(0, -1), OUTSIDE);
        due("told(5)", x.told(5), 400);
        about("pay: NOT: DEBT is less");
        due("pay(0, 90) of 89", x.pay(0, 90), NOT);
        due("pay(0, 89) of 89", x.pay(0, 89), 0);
        due("pay(0, 1) of 0", x.pay(0, 1), NOT);
        about("pay: NOT: THE STOCK has not so many");
        GullDeeds y = told("q0;h9 99;h9 99;g0 99;");
        due("pay(0, 1) of 0", y.pay(0, 1), NOT);
        y.lend(5);
        due("pay(0, 6) of 5", y.pay(0, 6), NOT);
        due("pay(0, 5) of 5", y.pay(0, 5), 94);
        due("told(5)", y.told(5), 0);
        about("pay: NOT: not HELD; UNKNOWN");
        y.lend(5);
        due("pay(1, 1): FREE", y.pay(1, 1), NOT);
        due("pay(2, 1)", y.pay(2, 1), UNKNOWN);
        due("pay(-1, 1)", y.pay(-1, 1), UNKNOWN);
        due("pay(0, 1): HELD", y.pay(0, 1), 93);
        y.stone(0);
        due("pay(0, 1): EMPTY", y.pay(0, 1), NOT);
        about("PAID: GOOD DAYS are as they were");
        GullDeeds z = told("q0;h1 5;g0 99;");
        z.lend(5);
        z.pay(0, 5);
        due("house(0, 4)", z.house(0, 4), 0);
    }

    private static void breadBounds() {
        about("BREAD (n 1 .. 9): DEBT. OUTSIDE");
        GullDeeds x = told("q0;h1 99;h1 2;h1 99;g3 99;g3 99;");
        due("bread(0, 0)", x.bread(0, 0), OUTSIDE);
        due("bread(0, 10)", x.bread(0, 10), OUTSIDE);
        due("bread(0, -1)", x.bread(0, -1), OUTSIDE);
        due("bread(0, 1)", x.bread(0, 1), 98);
        x.undo(1);
        due("bread(0, 9)", x.bread(0, 9), 90);
        about("bread: NOT: DEBT is less");
        due("bread(1, 3) of 2", x.bread(1, 3), NOT);
        due("bread(1, 2) of 2", x.bread(1, 2), 0);
        due("bread(1, 1) of 0", x.bread(1, 1), NOT);
        about("bread: NOT: not HELD by a GULL of KIND 3; UNKNOWN");
        due("bread(2, 1): FREE", x.bread(2, 1), NOT);
        due("bread(3, 1)", x.bread(3, 1), UNKNOWN);
        due("bread(-1, 1)", x.bread(-1, 1), UNKNOWN);
        x.stone(0);
        due("bread(0, 1): EMPTY", x.bread(0, 1), NOT);
        for (int kind = 0; kind <= 3; kind++) {
            GullDeeds y = told("q0;h1 99;g" + kind + " 99;");
            due("bread(0, 1) to kind " + kind, y.bread(0, 1), kind == 3 ? 98 : NOT);
            due("house(0, 5) by kind " + kind, y.house(0, 5), kind == 3 ? 1 : 0);
        }
    }

    private static void breadWeight() {
        about("WEIGHT of the HOUSE more by n; with 10 or more it is PUT OUT");
        GullDeeds x = told("q0;h1 99;h1 99;h1 99;g3 99;g3 99;g0 99;");
        x.bread(0, 8);
        x.bread(0, 1);
        due("house(0, 5)", x.house(0, 5), 9);
        due("house(0, 2) with 9", x.house(0, 2), 0);
        due("bread(0, 1)", x.bread(0, 1), 89);
        due("house(0, 5)", x.house(0, 5), 10);
        due("house(0, 2) with 10", x.house(0, 2), 2);
        due("told(6)", x.told(6), 1);
        x.bread(1, 9);
        due("house(1, 2) with 9", x.house(1, 2), 0);
        due("bread(1, 9)", x.bread(1, 9), 81);
        due("house(1, 5)", x.house(1, 5), 18);
        due("house(1, 2) with 18", x.house(1, 2), 2);
        due("told(6)", x.told(6), 2);
        about("WEIGHT is of the HOUSE, not of its GULL");
        GullDeeds y = told("q0;h1 99;h1 99;g3 99;g3 99;");
        y.bread(0, 9);
        y.swap(0, 1);
        due("bread(1, 9)", y.bread(1, 9), 90);
        due("house(1, 2)", y.house(1, 2), 0);
        due("bread(0, 1)", y.bread(0, 1), 89);
        due("house(0, 2)", y.house(0, 2), 2);
    }

    private static void stoneBounds() {
        about("A STONE: how many are PUT OUT in all. UNKNOWN, NOT: it is EMPTY");
        GullDeeds x = told("q0;" + "h1 0;".repeat(7) + "g0 1;".repeat(6));
        due("stone(-1)", x.stone(-1), UNKNOWN);
        due("stone(7)", x.stone(7), UNKNOWN);
        due("stone(LOW)", x.stone(LOW), UNKNOWN);
        due("stone(HIGH)", x.stone(HIGH), UNKNOWN);
        for (int h = 0; h < 7; h++) {
            due("stone(" + h + ")", x.stone(h), h + 1);
            due("stone(" + h + ") again", x.stone(h), NOT);
        }
        due("told(6)", x.told(6), 7);
        GullDeeds y = told("q0;h9 0;h1 0;g0 8;g0 99;");
        y.day(1);
        due("stone(1): one was PUT OUT by a DAY", y.stone(1), 2);
    }

    private static void lendBounds() {
        about("LENT (n 1 .. 999): THE STOCK. OUTSIDE, NOT: no ROW");
        GullDeeds x = told("q0;");
        due("lend(0)", x.lend(0), OUTSIDE);
        due("lend(1)", x.lend(1), 1);
        due("lend(999)", x.lend(999), 1000);
        due("lend(1000)", x.lend(1000), OUTSIDE);
        due("lend(-1)", x.lend(-1), OUTSIDE);
        due("lend(HIGH)", x.lend(HIGH), OUTSIDE);
        GullDeeds y = new GullDeeds();
        due("lend(1)", y.lend(1), NOT);
        due("lend(999)", y.lend(999), NOT);
        due("lend(0)", y.lend(0), OUTSIDE);
        due("lend(1000)", y.lend(1000), OUTSIDE);
    }

    private static void swapBounds() {
        about("two HOUSES that GULLS hold (EMPTY ones, too) have each other's GULL then; GOOD DAYS of both are 0");
        GullDeeds x = told("q99;" + "h1 0;".repeat(7) + "g0 1;".repeat(6));
        x.day(3);
        due("swap(0, 5)", x.swap(0, 5), 5);
        due("house(5, 3)", x.house(5, 3), 0);
        due("house(0, 4)", x.house(0, 4), 0);
        due("house(5, 4)", x.house(5, 4), 0);
        due("house(1, 4)", x.house(1, 4), 3);
        x.stone(0);
        x.stone(1);
        due("swap(1, 0): both EMPTY", x.swap(1, 0), 5);
        due("swap(2, 0): one EMPTY", x.swap(2, 0), 1);
        due("house(2, 2)", x.house(2, 2), 0);
        about("swap: UNKNOWN (one twice, too), NOT: one has no GULL");
        due("swap(5, 6)", x.swap(5, 6), NOT);
        due("swap(6, 5)", x.swap(6, 5), NOT);
        due("swap(5, 7)", x.swap(5, 7), UNKNOWN);
        due("swap(7, 5)", x.swap(7, 5), UNKNOWN);
        due("swap(0, -1)", x.swap(0, -1), UNKNOWN);
        due("swap(-1, 0)", x.swap(-1, 0), UNKNOWN);
        due("swap(7, 7)", x.swap(7, 7), UNKNOWN);
        due("swap(3, 3)", x.swap(3, 3), UNKNOWN);
        due("swap(6, 6)", x.swap(6, 6), UNKNOWN);
        due("swap(6, 7)", x.swap(6, 7), UNKNOWN);
        due("told(17): three days, three swaps, two stones", x.told(17), 8);
    }

    private static long next(long seed) {
        return (seed * 1103515245L + 12345L) % 2147483648L;
    }

    private static int drawn(long seed, int n) {
        return (int) (seed / 65536 % n);
    }

    /** A seed by which the deed of the next day is drawn, and behind it these two: -1 for any. */
    private static int seedFor(int deed, int n, int first, int m, int second) {
        for (int seed = 0; seed < 10000000; seed++) {
            long a = next(seed);
            long b = next(a);
            long c = next(b);
            boolean fits = drawn(a, 6) == deed && (first < 0 || drawn(b, n) == first) && (second < 0 || drawn(c, m) == second);
            if (fits) return seed;
        }
        return NONE;
    }

    private static void driftBounds() {
        about("n DAYS BY DRAWS (1 .. 30): THE STOCK. OUTSIDE, NOT: no ROW");
        GullDeeds x = told("q1;");
        x.seed(seedFor(5, 1, -1, 1, -1));
        due("drift(0)", x.drift(0), OUTSIDE);
        due("drift(31)", x.drift(31), OUTSIDE);
        due("drift(-1)", x.drift(-1), OUTSIDE);
        due("drift(1)", x.drift(1), 1);
        due("drift(30)", x.drift(30), x.told(5));
        due("told(4)", x.told(4), 31);
        GullDeeds y = new GullDeeds();
        due("drift(1)", y.drift(1), NOT);
        due("drift(30)", y.drift(30), NOT);
        due("drift(0)", y.drift(0), OUTSIDE);
        due("drift(31)", y.drift(31), OUTSIDE);
        due("seed(0)", y.seed(0), 0);
    }

    /** How many draws a day by draws makes, by where the seed is then. */
    private static void seedThen(String row, int deed, int draws) {
        GullDeeds x = told(row);
        int start = seedFor(deed, 1, -1, 1, -1);
        x.seed(start);
        x.drift(1);
        long want = start;
        for (int i = 0; i < draws; i++) want = next(want);
        due("seed() behind deed " + deed + " of " + row, x.seed(0), (int) want);
    }

    private static void drawsThatAreMade() {
        about("a DRAW of 6: on 0 a DRAW of 20 heads are LENT");
        GullDeeds x = told("q0;");
        x.seed(seedFor(0, 20, 0, 1, -1));
        due("drift(1): 0 heads", x.drift(1), 0);
        x.seed(seedFor(0, 20, 19, 1, -1));
        due("drift(1): 19 heads", x.drift(1), 19);
        seedThen("q0;", 0, 2);
        about("on 1, if there are two HOUSES or more, a DRAW of HOUSES, of HOUSES: they are SWAPPED, if they can be");
        seedThen("q0;", 1, 1);
        seedThen("q0;h1 0;g0 9;", 1, 1);
        seedThen("q0;h1 0;h1 0;g0 9;", 1, 3);
        GullDeeds y = told("q9;h1 0;h1 0;h1 0;g0 9;g0 9;");
        y.day(2);
        y.seed(seedFor(1, 3, 0, 3, 0));
        y.drift(1);
        due("house(0, 4): not with itself", y.house(0, 4), 3);
        y.seed(seedFor(1, 3, 0, 3, 2));
        y.drift(1);
        due("house(0, 4): not with one that is FREE", y.house(0, 4), 4);
        y.stone(1);
        y.seed(seedFor(1, 3, 1, 3, 0));
        y.drift(1);
        due("house(0, 3): with one that is EMPTY", y.house(0, 3), 1);
        due("house(0, 4)", y.house(0, 4), 1);
        about("on 2, if there are HOUSES, a DRAW of these, of 10 heads: PAID, if it can be");
        seedThen("q0;", 2, 1);
        seedThen("q0;h1 0;", 2, 3);
        GullDeeds z = told("q0;h1 9;g2 1;");
        z.lend(9);
        z.seed(seedFor(2, 1, 0, 10, 9));
        due("drift(1): 9 of 9", z.drift(1), 0);
        due("house(0, 1): 1 lacks behind it", z.house(0, 1), 1);
        z.undo(2);
        z.lend(8);
        z.seed(seedFor(2, 1, 0, 10, 9));
        due("drift(1): THE STOCK has not so many", z.drift(1), 6);
        due("house(0, 1): the head more alone", z.house(0, 1), 8);
        z.undo(2);
        z.lend(99);
        z.pay(0, 1);
        z.seed(seedFor(2, 1, 0, 10, 9));
        due("drift(1): DEBT is less", z.drift(1), 96);
        z.undo(3);
        z.lend(99);
        z.seed(seedFor(2, 1, 0, 10, 0));
        due("drift(1): 0 heads", z.drift(1), 97);
        for (int deed = 3; deed <= 5; deed++) seedThen("q0;h1 0;h1 0;g0 9;g0 9;", deed, 1);
    }

    private static void seedBounds() {
        about("THE SEED becomes v (0 .. 2147483647): what it was. OUTSIDE");
        GullDeeds x = told("q0;");
        due("seed(1)", x.seed(1), 0);
        due("seed(-1)", x.seed(-1), OUTSIDE);
        due("seed(LOW)", x.seed(LOW), OUTSIDE);
        due("seed(0)", x.seed(0), 1);
        due("seed(2147483647)", x.seed(2147483647), 0);
        about("left over by 2 to the 31");
        // 2147483647 is 2 to the 31 less 1, so it becomes 12345 - 1103515245 and 2 to the 31; of 6 it draws 5: no other draw.
        x.drift(1);
        due("seed(0)", x.seed(0), 1043980748);
        due("the DRAW of 6", drawn(1043980748, 6), 5);
    }

    private static void undoBounds() {
        about("The n latest (1 .. 30) are undone: DAYS. OUTSIDE, NOT: not so many");
        GullDeeds x = told("q1;");
        due("undo(1) of none", x.undo(1), NOT);
        x.day(30);
        due("undo(0)", x.undo(0), OUTSIDE);
        due("undo(31)", x.undo(31), OUTSIDE);
        due("undo(-1)", x.undo(-1), OUTSIDE);
        due("undo(1)", x.undo(1), 29);
        due("told(5)", x.told(5), 29);
        due("undo(30) of 29", x.undo(30), NOT);
        due("told(4)", x.told(4), 29);
        due("undo(29) of 29", x.undo(29), 0);
        due("undo(1) of none", x.undo(1), NOT);
        x.day(30);
        due("undo(30) of 30", x.undo(30), 0);
        due("told(5)", x.told(5), 0);
    }

    private static void undoKeepsThirty() {
        about("30 at most are kept");
        GullDeeds x = told("q0;");
        for (int i = 1; i <= 29; i++) x.lend(i);
        due("told(17)", x.told(17), 29);
        x.lend(30);
        due("told(17)", x.told(17), 30);
        x.lend(31);
        due("told(17)", x.told(17), 30);
        due("undo(30)", x.undo(30), 0);
        due("told(5): the first stays", x.told(5), 1);
        due("told(17)", x.told(17), 0);
        int stock = 1;
        for (int i = 1; i <= 45; i++) x.lend(i);
        stock += 45 * 46 / 2;
        due("told(5)", x.told(5), stock);
        for (int i = 45; i > 15; i--) {
            due("undo(1)", x.undo(1), 0);
            stock -= i;
            due("told(5) without " + i, x.told(5), stock);
        }
        due("undo(1): the 31st", x.undo(1), NOT);
        about("all of section 2 is as ahead of them");
        GullDeeds z = told("q9;h1 9;h1 0;h9 0;g3 99;g0 9;g1 30;");
        z.day(2);
        String was = picture(z);
        z.bread(0, 5);
        z.bread(0, 2);
        z.swap(0, 1);
        z.pay(0, 1);
        z.drift(5);
        z.day(5);
        z.stone(2);
        int done = z.told(17) - 2;
        due("undo()", z.undo(done), 2);
        alike("what is so", picture(z), was);
        due("house(1, 4)", z.house(1, 4), 2);
        due("house(0, 5)", z.house(0, 5), 0);
        about("the latest deeds (each DAY, pay(), bread(), stone(), lend(), swap(), each DAY BY DRAWS)");
        GullDeeds y = told("q9;h1 9;h1 9;g3 99;g3 99;");
        int deeds = 0;
        y.day(2);
        due("told(17): two DAYS", y.told(17), deeds += 2);
        y.pay(0, 1);
        due("told(17): pay()", y.told(17), ++deeds);
        y.bread(0, 1);
        due("told(17): bread()", y.told(17), ++deeds);
        y.lend(1);
        due("told(17): lend()", y.told(17), ++deeds);
        y.swap(0, 1);
        due("told(17): swap()", y.told(17), ++deeds);
        y.drift(3);
        due("told(17): three DAYS BY DRAWS", y.told(17), deeds += 3);
        y.stone(0);
        due("told(17): stone()", y.told(17), ++deeds);
        y.hear(0, 0, true);
        y.write(0, 0);
        y.tear();
        y.seed(5);
        due("told(17): no other call", y.told(17), deeds);
        due("undo(1)", y.undo(1), 5);
        due("undo(3)", y.undo(3), 2);
        due("undo(6)", y.undo(6), 0);
        due("seed(0) stays", y.seed(0), 5);
    }

    private static void undoSinceTextOrImage() {
        about("since the text or IMAGE; nothing can be undone then");
        GullDeeds x = told("q1;");
        x.day(2);
        x.keep(0);
        due("told(17) behind keep()", x.told(17), 0);
        due("undo(1) behind keep()", x.undo(1), NOT);
        x.day(1);
        due("undo(2) behind one more", x.undo(2), NOT);
        due("undo(1) behind one more", x.undo(1), 2);
        x.day(3);
        x.goBack(0);
        due("told(17) behind goBack()", x.told(17), 0);
        due("undo(1) behind goBack()", x.undo(1), NOT);
        x.day(3);
        due("undo(3)", x.undo(3), 2);
        x.day(3);
        feedAll(x, "q1;");
        x.row();
        due("told(17) behind row()", x.told(17), 0);
        due("undo(1) behind row()", x.undo(1), NOT);
    }

    private static void imageBounds() {
        about("IMAGES 0, 1 keep all of section 2, THE SEED. UNKNOWN, NOT: it was not kept");
        GullDeeds x = told("q2;h1 20;h9 4;h1 4;g3 99;g1 20;g0 99;");
        for (int i : new int[] {-1, 2, LOW, HIGH}) {
            due("keep(" + i + ")", x.keep(i), UNKNOWN);
            due("goBack(" + i + ")", x.goBack(i), UNKNOWN);
        }
        due("goBack(0)", x.goBack(0), NOT);
        due("goBack(1)", x.goBack(1), NOT);
        x.bread(0, 3);
        x.day(2);
        x.seed(10);
        due("keep(1)", x.keep(1), 1);
        due("goBack(0): the other one", x.goBack(0), NOT);
        String second = picture(x);
        x.bread(0, 4);
        x.swap(0, 2);
        x.drift(9);
        x.seed(11);
        due("keep(0)", x.keep(0), 1);
        String first = picture(x);
        x.stone(2);
        x.seed(12);
        due("goBack(1)", x.goBack(1), 1);
        alike("IMAGE 1", picture(x), second);
        due("seed(13)", x.seed(13), 10);
        due("goBack(0)", x.goBack(0), 1);
        alike("IMAGE 0", picture(x), first);
        due("seed(13)", x.seed(13), 11);
        due("goBack(0) again", x.goBack(0), 1);
        due("seed(13) again", x.seed(13), 11);
        GullDeeds y = told("q9;h1 0;g0 9;");
        y.day(6);
        y.keep(0);
        y.day(1);
        y.goBack(0);
        due("house(0, 4)", y.house(0, 4), 6);
        due("gull(0, 2)", y.gull(0, 2), 0);
    }

    private static void lastCall() {
        about("An object is used for at most 512 calls");
        GullDeeds x = told("q1;h1 0;g2 1;");
        for (int i = 15; i <= 511; i++) x.lend(1);
        // 497 are lent; the house takes the catch of 7 days, and 23 more come.
        due("the 512th call", x.day(30), 520);
    }
}
