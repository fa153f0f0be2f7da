import java.util.function.IntUnaryOperator;

/** Section 3 and promises 18 to 33: each sentence that names a boundary, at it and one beyond it. */
public final class TriedBoundaryTests extends Check {
    private static final String SEVEN = "q0;" + "h1 0;".repeat(7) + "g0 99;".repeat(7);

    public static void main(String[] args) {
        owesBounds();
        firstOutBounds();
        firstOutTurns();
        outByBounds();
        redeemedByBounds();
        loanBounds();
        loanAtMost();
        clearBounds();
        clearLeastSet();
        bestSwapBounds();
        bestSwapLeast();
        nothingChangesByTrying();
        astrayAndHome();
        mostBreadBounds();
        sureBounds();
        hearBounds();
        galesBounds();
        galesOfThoseThatHold();
        listenBounds();
        writeBounds();
        judgeBounds();
        tearBounds();
        end("TriedBoundaryTests");
    }

    /** That a call takes 0 .. most, and answers OUTSIDE beside that. */
    private static void bounds(String name, IntUnaryOperator call, int most) {
        due(name + "(0) is not OUTSIDE", call.applyAsInt(0) == OUTSIDE ? 1 : 0, 0);
        due(name + "(most) is not OUTSIDE", call.applyAsInt(most) == OUTSIDE ? 1 : 0, 0);
        for (int n : new int[] {-1, most + 1, LOW, HIGH}) due(name + "(" + n + ")", call.applyAsInt(n), OUTSIDE);
    }

    private static void owesBounds() {
        about("OWES: DEBT of a HOUSE behind n DAYS (0 .. 60). UNKNOWN, OUTSIDE");
        GullDeeds x = told("q0;h1 0;h1 5;g2 1;");
        due("owes(0, 0)", x.owes(0, 0), 0);
        due("owes(0, 1)", x.owes(0, 1), 1);
        due("owes(0, 59)", x.owes(0, 59), 59);
        due("owes(0, 60)", x.owes(0, 60), 60);
        due("owes(1, 60): FREE", x.owes(1, 60), 5);
        bounds("owes 0", n -> x.owes(0, n), 60);
        for (int h : new int[] {-1, 2, LOW, HIGH}) due("owes(" + h + ", 0)", x.owes(h, 0), UNKNOWN);
        GullDeeds y = told("q0;h1 0;g0 5;");
        due("owes(0, 6): above P", y.owes(0, 6), 6);
        due("owes(0, 60): DEBT stays", y.owes(0, 60), 6);
        GullDeeds z = told("q5;h1 3;g0 5;");
        due("owes(0, 2)", z.owes(0, 2), 1);
        due("owes(0, 3)", z.owes(0, 3), 0);
        due("owes(0, 60)", z.owes(0, 60), 0);
    }

    private static void firstOutBounds() {
        about("FIRST OUT: the HOUSE that is PUT OUT first in the next 60 DAYS, behind how many DAYS; NONE. OUTSIDE");
        GullDeeds x = told("q0;h1 98;g0 98;");
        due("firstOut(0) on the first", x.firstOut(0), 0);
        due("firstOut(1) on the first", x.firstOut(1), 1);
        GullDeeds y = told("q0;h1 39;g0 98;");
        due("firstOut(0) on the 60th", y.firstOut(0), 0);
        due("firstOut(1) on the 60th", y.firstOut(1), 60);
        GullDeeds z = told("q0;h1 38;g0 98;");
        due("firstOut(0) on the 61st", z.firstOut(0), NONE);
        due("firstOut(1) on the 61st", z.firstOut(1), NONE);
        z.day(1);
        due("firstOut(1) a DAY later", z.firstOut(1), 60);
        x.stone(0);
        due("firstOut(0): it is EMPTY", x.firstOut(0), NONE);
        bounds("firstOut", y::firstOut, 1);
        due("firstOut(0) without a ROW", new GullDeeds().firstOut(0), NONE);
    }

    private static void firstOutTurns() {
        about("of one DAY the one whose turn comes first");
        for (int houses : new int[] {3, 7}) {
            GullDeeds x = told("q0;" + "h9 0;".repeat(houses) + "g0 8;".repeat(houses));
            for (int day = 0; day < 7; day++) {
                due("firstOut(0) on day " + day + " of " + houses, x.firstOut(0), day % houses);
                due("firstOut(1) on day " + day + " of " + houses, x.firstOut(1), 1);
                x.lend(9 * houses);
                x.day(1);
            }
        }
        GullDeeds y = told("q0;h1 1;h1 1;h1 2;g0 2;g0 2;g0 2;");
        due("firstOut(0): a later turn, but an earlier DAY", y.firstOut(0), 2);
        due("firstOut(1)", y.firstOut(1), 1);
    }

    private static void outByBounds() {
        about("OUT BY: HOUSES (a SET) that are PUT OUT within n DAYS (n 0 .. 60). OUTSIDE");
        GullDeeds x = told("q0;h1 39;h1 98;g0 98;g0 98;");
        due("outBy(0)", x.outBy(0), 0);
        due("outBy(1)", x.outBy(1), 2);
        due("outBy(59)", x.outBy(59), 2);
        due("outBy(60)", x.outBy(60), 3);
        bounds("outBy", x::outBy, 60);
        x.stone(1);
        due("outBy(60): one was EMPTY", x.outBy(60), 1);
        GullDeeds y = told("q0;" + "h1 9;".repeat(7) + "g0 9;".repeat(7));
        due("outBy(1) of seven", y.outBy(1), 127);
        due("outBy(60) without a ROW", new GullDeeds().outBy(60), 0);
    }

    private static void redeemedByBounds() {
        about("REDEEMED BY: HOUSES (a SET) that are REDEEMED within n DAYS (n 0 .. 60). OUTSIDE");
        // One head a day goes to the debt: 54 are gone behind 54 days, the first good one; the seventh is the 60th.
        GullDeeds x = told("q4;h1 54;h1 55;g0 99;g2 1;");
        due("redeemedBy(0)", x.redeemedBy(0), 0);
        due("redeemedBy(59)", x.redeemedBy(59), 0);
        due("redeemedBy(60)", x.redeemedBy(60), 1);
        bounds("redeemedBy", x::redeemedBy, 60);
        x.day(1);
        due("redeemedBy(60) a DAY later", x.redeemedBy(60), 3);
        due("redeemedBy(59) a DAY later", x.redeemedBy(59), 1);
        GullDeeds y = told("q99;" + "h1 0;".repeat(7) + "g0 1;".repeat(7));
        due("redeemedBy(6) of seven", y.redeemedBy(6), 0);
        due("redeemedBy(7) of seven", y.redeemedBy(7), 127);
        y.stone(6);
        due("redeemedBy(60): one is EMPTY", y.redeemedBy(60), 63);
        y.day(7);
        due("redeemedBy(60): all are so already", y.redeemedBy(60), 0);
        due("redeemedBy(60) without a ROW", new GullDeeds().redeemedBy(60), 0);
    }

    private static void loanBounds() {
        about("LOAN: the fewest heads LENT now by which nobody is PUT OUT within n DAYS (n 0 .. 60); NONE. OUTSIDE");
        GullDeeds x = told("q0;h1 39;g0 98;");
        due("loan(0)", x.loan(0), 0);
        due("loan(59)", x.loan(59), 0);
        due("loan(60)", x.loan(60), 1);
        bounds("loan", x::loan, 60);
        x.lend(1);
        due("loan(60) with one", x.loan(60), 0);
        GullDeeds y = told("q0;h9 98;g0 1;");
        due("loan(0): nobody is PUT OUT within 0", y.loan(0), 0);
        due("loan(1): nothing helps", y.loan(1), NONE);
        y.stone(0);
        due("loan(60): EMPTY already", y.loan(60), 0);
        due("loan(60) without a ROW", new GullDeeds().loan(60), 0);
    }

    private static void loanAtMost() {
        about("LENT now (0 .. 999)");
        // Seven take 10 a day, 9 and one more: 980 in 14 days, with a debt of 85 each then. Of the two days that are left
        // the last is without heads (9 lack). On the one ahead of it six take 10 each; the seventh may lack 5 at most,
        // so that it comes to 90, and to 99 on the last: 980 and 60 and 4.
        GullDeeds x = told("q0;" + "h9 99;".repeat(7) + "g0 99;".repeat(7));
        due("loan(16) of 1044", x.loan(16), NONE);
        x.lend(44);
        due("loan(16) of 1000", x.loan(16), NONE);
        x.lend(1);
        due("loan(16) of 999", x.loan(16), 999);
        x.lend(1);
        due("loan(16) of 998", x.loan(16), 998);
        x.lend(997);
        due("loan(16) of 1", x.loan(16), 1);
        x.lend(1);
        due("loan(16) of 0", x.loan(16), 0);
        about("LENT: 9999 at most in THE STOCK");
        GullDeeds y = told("q0;h9 99;g0 97;");
        lendAll(y, 9999);
        due("loan(1)", y.loan(1), NONE);
        GullDeeds z = told("q0;h9 99;g0 98;");
        lendAll(z, 9999);
        due("loan(1)", z.loan(1), 0);
    }

    private static void clearBounds() {
        about("CLEAR: HOUSES that are HELD and have DEBT, such that THE STOCK does for all their DEBT: as many as can be. OUTSIDE");
        GullDeeds x = told("q0;h1 5;h1 3;h1 1;h1 0;g0 99;g0 99;");
        due("clear(0) of nothing", x.clear(0), 0);
        due("clear(1) of nothing", x.clear(1), 0);
        x.lend(2);
        due("clear(0) of 2", x.clear(0), 0);
        x.lend(1);
        due("clear(0) of 3", x.clear(0), 1);
        due("clear(1) of 3", x.clear(1), 2);
        x.lend(4);
        due("clear(0) of 7", x.clear(0), 1);
        due("clear(1) of 7", x.clear(1), 1);
        x.lend(1);
        due("clear(0) of 8", x.clear(0), 2);
        due("clear(1) of 8", x.clear(1), 3);
        x.lend(999);
        due("clear(1): no FREE one", x.clear(1), 3);
        x.stone(0);
        due("clear(1): no EMPTY one", x.clear(1), 2);
        x.pay(1, 3);
        due("clear(0): none without DEBT", x.clear(0), 0);
        due("clear(1): none without DEBT", x.clear(1), 0);
        bounds("clear", x::clear, 1);
        GullDeeds y = told("q0;" + "h1 99;".repeat(7) + "g0 99;".repeat(7));
        y.lend(692);
        due("clear(0) of 692", y.clear(0), 6);
        due("clear(1) of 692", y.clear(1), 63);
        y.lend(1);
        due("clear(0) of 693", y.clear(0), 7);
        due("clear(1) of 693", y.clear(1), 127);
        due("clear(0) without a ROW", new GullDeeds().clear(0), 0);
    }

    private static void clearLeastSet() {
        about("of like ones the least SET");
        GullDeeds x = told("q0;h1 9;h1 4;h1 4;h1 4;g0 99;g0 99;g0 99;g0 99;");
        x.lend(4);
        due("clear(1) of one", x.clear(1), 2);
        x.lend(4);
        due("clear(1) of two", x.clear(1), 6);
        x.lend(4);
        due("clear(1) of three", x.clear(1), 14);
        x.lend(5);
        due("clear(1): of three another one", x.clear(1), 7);
    }

    private static void bestSwapBounds() {
        about("BEST SWAP (n 0 .. 60): fewest are PUT OUT within n DAYS (fewer than without); NONE. OUTSIDE");
        GullDeeds x = told("q0;h1 39;h1 0;g0 98;g0 99;");
        due("bestSwap(0, 0)", x.bestSwap(0, 0), NONE);
        due("bestSwap(59, 0): without, nobody is PUT OUT", x.bestSwap(59, 0), NONE);
        due("bestSwap(59, 1)", x.bestSwap(59, 1), NONE);
        due("bestSwap(60, 0)", x.bestSwap(60, 0), 1);
        due("bestSwap(60, 1)", x.bestSwap(60, 1), 0);
        bounds("bestSwap n", n -> x.bestSwap(n, 0), 60);
        bounds("bestSwap what", what -> x.bestSwap(60, what), 1);
        GullDeeds y = told("q0;h9 0;h9 0;g0 8;g0 9;");
        due("bestSwap(1, 0): no fewer than without", y.bestSwap(1, 0), NONE);
        due("bestSwap(1, 1): no fewer than without", y.bestSwap(1, 1), NONE);
        due("bestSwap(60, 0) without a ROW", new GullDeeds().bestSwap(60, 0), NONE);
        about("BEST SWAP: the two HOUSES that can be SWAPPED now");
        GullDeeds z = told("q0;h9 0;h1 0;g0 8;");
        due("bestSwap(1, 0): one is FREE", z.bestSwap(1, 0), NONE);
        GullDeeds w = told("q0;h9 0;h1 0;g0 8;g2 1;");
        w.stone(1);
        due("bestSwap(1, 0): one is EMPTY", w.bestSwap(1, 0), 1);
        due("bestSwap(1, 1): none but that", w.bestSwap(1, 1), 0);
    }

    private static void bestSwapLeast() {
        about("100 times the lesser and the other; of like ones the least; how many that are");
        GullDeeds x = told("q0;" + "h1 0;".repeat(5) + "h9 0;h1 0;" + "g0 8;".repeat(6) + "g0 99;");
        due("bestSwap(1, 0) of 5 and 6", x.bestSwap(1, 0), 506);
        GullDeeds y = told("q0;h9 0;" + "h1 0;".repeat(5) + "h1 0;" + "g0 8;".repeat(6) + "g0 9;");
        due("bestSwap(1, 0) of 0 and 6", y.bestSwap(1, 0), 6);
        GullDeeds z = told("q0;h9 0;h9 0;h1 0;h1 0;g0 8;g0 8;g0 9;g0 9;");
        due("bestSwap(1, 0): 2, 3, 102, 103 do alike", z.bestSwap(1, 0), 2);
        due("bestSwap(1, 1): one is PUT OUT all the same", z.bestSwap(1, 1), 1);
        about("BEST SWAP: fewer than without; one that was EMPTY already is not counted");
        GullDeeds w = told("q0;h9 0;h9 0;h9 0;g0 8;g0 8;g2 1;");
        w.stone(0);
        due("bestSwap(1, 0): one is PUT OUT without, and by the best", w.bestSwap(1, 0), NONE);
        about("BEST SWAP: two HOUSES, not one twice");
        // House 0 has 6 good days. Did it begin anew, house 1 alone would be put out, early; so one with itself would do.
        GullDeeds v = told("q9;h7 0;h9 0;h1 0;h1 0;g0 99;g0 50;g1 18;g1 18;");
        v.lend(54);
        v.day(6);
        for (int k = 1; k < 3; k++) {
            v.swap(k, k + 1);
            v.swap(k, k + 1);
        }
        due("outBy(40)", v.outBy(40), 12);
        due("bestSwap(40, 0)", v.bestSwap(40, 0), 102);
        due("bestSwap(40, 1)", v.bestSwap(40, 1), 1);
    }

    private static void nothingChangesByTrying() {
        about("TRIED from now, as nothing else is done; nothing changes by it");
        GullDeeds x = told("q3;h3 9;h3 0;h2 5;g0 12;g1 9;g3 30;");
        x.day(3);
        x.seed(8);
        String was = picture(x);
        int undone = x.told(17);
        for (int n : new int[] {0, 1, 60}) {
            x.owes(0, n);
            x.outBy(n);
            x.redeemedBy(n);
            x.loan(n);
            x.bestSwap(n, 0);
            x.bestSwap(n, 1);
        }
        x.firstOut(0);
        x.firstOut(1);
        x.clear(0);
        x.clear(1);
        x.home(0);
        x.mostBread(2);
        x.sure(60, 50);
        x.gales(0);
        x.listen();
        x.judge();
        alike("what is so", picture(x), was);
        due("told(17)", x.told(17), undone);
        due("seed(0)", x.seed(0), 8);
        due("undo(3)", x.undo(3), 0);
    }

    private static void astrayAndHome() {
        about("HOME of a GULL: how many steps (1 on); NONE (it holds nothing, too). UNKNOWN");
        GullDeeds x = told(SEVEN);
        due("told(11)", x.told(11), 0);
        for (int g = 0; g < 7; g++) due("home(" + g + ") at its own", x.home(g), 1);
        for (int k = 1; k < 7; k++) {
            x.swap(k - 1, k);
            due("told(11)", x.told(11), k + 1);
            due("home(0)", x.home(0), k + 1);
            due("home(" + k + ")", x.home(k), k + 1);
            if (k < 6) due("home(6)", x.home(6), 1);
        }
        for (int g : new int[] {-1, 7, LOW, HIGH}) due("home(" + g + ")", x.home(g), UNKNOWN);
        about("HOME: NONE, if one comes to a HOUSE x whose GULL x holds none (or is not told)");
        GullDeeds y = told("q99;h1 0;h1 50;h1 50;h1 0;g0 99;g0 99;g0 99;");
        due("home(3): there is a HOUSE 3, but no GULL", y.home(3), UNKNOWN);
        y.swap(0, 1);
        y.swap(1, 2);
        due("home(0)", y.home(0), 3);
        y.day(7);
        due("told(8): HOUSE 0 is REDEEMED, GULL 1 is gone", y.told(8), 9);
        due("gull(1, 2)", y.gull(1, 2), NONE);
        due("home(1): it holds nothing", y.home(1), NONE);
        due("home(0): by HOUSE 2 to HOUSE 1", y.home(0), NONE);
        due("home(2): to HOUSE 1", y.home(2), NONE);
        due("told(11)", y.told(11), 2);
    }

    private static void mostBreadBounds() {
        about("BREAD at most: the lesser of DEBT and 9 less WEIGHT; NONE: not HELD by one of KIND 3. UNKNOWN");
        for (int debt : new int[] {0, 1, 8, 9, 10, 99}) {
            GullDeeds x = told("q0;h1 " + debt + ";g3 99;");
            due("mostBread(0) of " + debt, x.mostBread(0), Math.min(debt, 9));
        }
        GullDeeds x = told("q0;h1 99;h1 9;h1 99;h1 99;g3 99;g3 99;g2 99;");
        x.bread(0, 8);
        due("mostBread(0) with WEIGHT 8", x.mostBread(0), 1);
        x.bread(0, 1);
        due("mostBread(0) with WEIGHT 9", x.mostBread(0), 0);
        x.bread(0, 1);
        due("mostBread(0) with WEIGHT 10: EMPTY", x.mostBread(0), NONE);
        x.bread(1, 6);
        due("mostBread(1): 3 of DEBT, 3 of WEIGHT", x.mostBread(1), 3);
        x.bread(1, 3);
        due("mostBread(1)", x.mostBread(1), 0);
        due("house(1, 2)", x.house(1, 2), 0);
        due("mostBread(2): another KIND", x.mostBread(2), NONE);
        due("mostBread(3): FREE", x.mostBread(3), NONE);
        for (int h : new int[] {-1, 4, LOW, HIGH}) due("mostBread(" + h + ")", x.mostBread(h), UNKNOWN);
    }

    private static void sureBounds() {
        about("SURE: odds that n CATCHES (0 .. 60) all come, each by q of a hundred (0 .. 100). OUTSIDE");
        GullDeeds x = new GullDeeds();
        due("sure(0, 0)", x.sure(0, 0), 1000000000);
        due("sure(0, 100)", x.sure(0, 100), 1000000000);
        due("sure(1, 0)", x.sure(1, 0), 0);
        due("sure(60, 0)", x.sure(60, 0), 0);
        due("sure(1, 100)", x.sure(1, 100), 1000000000);
        due("sure(60, 100)", x.sure(60, 100), 1000000000);
        due("sure(1, 1)", x.sure(1, 1), 10000000);
        due("sure(1, 99)", x.sure(1, 99), 990000000);
        due("sure(4, 1)", x.sure(4, 1), 10);
        due("sure(5, 1): cut", x.sure(5, 1), 0);
        // 0.5 to the 9th is 1953125 of a billion; then 976562, 488281, 244140, 122070, 61035, 30517 (cut each).
        due("sure(9, 50)", x.sure(9, 50), 1953125);
        due("sure(10, 50): cut", x.sure(10, 50), 976562);
        due("sure(15, 50): cut each", x.sure(15, 50), 30517);
        bounds("sure n", n -> x.sure(n, 50), 60);
        bounds("sure q", q -> x.sure(1, q), 100);
    }

    private static void hearBounds() {
        about("HEARD (6 at most): how much. UNKNOWN, FULL (6)");
        GullDeeds x = told("q0;h1 0;h1 0;h1 0;g0 9;g0 9;");
        for (int i = 1; i <= 6; i++) due("hear(1, 2, false)", x.hear(1, 2, false), i);
        due("hear(1, 2, false): a seventh", x.hear(1, 2, false), FULL);
        due("told(15)", x.told(15), 6);
        due("tear()", x.tear(), 6);
        for (int i = 1; i <= 5; i++) due("hear(1, 1, true)", x.hear(1, 1, true), i);
        due("gales(0)", x.gales(0), 1);
        due("hear(1, 0, true): the sixth", x.hear(1, 0, true), 6);
        due("gales(0): the sixth counts", x.gales(0), 0);
        x.tear();
        due("hear(2, 0, true): there is a HOUSE 2, but no GULL", x.hear(2, 0, true), UNKNOWN);
        due("hear(-1, 0, true)", x.hear(-1, 0, true), UNKNOWN);
        due("hear(0, 3, true)", x.hear(0, 3, true), UNKNOWN);
        due("hear(0, -1, true)", x.hear(0, -1, true), UNKNOWN);
        due("told(15)", x.told(15), 0);
    }

    private static void galesBounds() {
        about("GALES: pairs (10 times the lesser GULL and the other) and none (99): how many; the first (pairs rising, none last); NONE. OUTSIDE");
        GullDeeds x = told(SEVEN);
        due("gales(0) of seven", x.gales(0), 22);
        due("gales(1) of seven", x.gales(1), 1);
        bounds("gales", x::gales, 1);
        x.hear(6, 5, true);
        due("gales(0): 56", x.gales(0), 1);
        due("gales(1): 56", x.gales(1), 56);
        x.tear();
        x.hear(5, 6, true);
        due("gales(0): 56 by the other", x.gales(0), 1);
        due("gales(1): 56 by the other", x.gales(1), 56);
        x.tear();
        x.hear(6, 0, true);
        due("gales(1): 06", x.gales(1), 6);
        x.tear();
        for (int g = 0; g < 6; g++) x.hear(g, g, true);
        due("gales(0): none", x.gales(0), 1);
        due("gales(1): none", x.gales(1), 99);
        x.tear();
        x.hear(3, 3, false);
        due("gales(0): one of 3's six pairs", x.gales(0), 6);
        due("gales(1): 03", x.gales(1), 3);
        x.hear(3, 3, true);
        due("gales(0): nothing fits", x.gales(0), 0);
        due("gales(1): nothing fits", x.gales(1), NONE);
        GullDeeds y = told("q0;h1 0;g0 9;");
        due("gales(0) of one GULL", y.gales(0), 1);
        due("gales(1) of one GULL", y.gales(1), 99);
        due("gales(0) of two", told("q0;h1 0;h1 0;g0 9;g0 9;").gales(0), 2);
    }

    private static void galesOfThoseThatHold() {
        about("one pair of GULLS that hold HOUSES now");
        GullDeeds x = told("q99;h1 0;h1 50;h1 50;g0 99;g0 99;g0 99;");
        due("gales(0)", x.gales(0), 4);
        x.day(6);
        due("gales(0) of six GOOD DAYS", x.gales(0), 4);
        x.day(1);
        due("gales(0): GULL 0 is gone", x.gales(0), 2);
        due("gales(1): GULL 0 is gone", x.gales(1), 12);
        x.stone(1);
        due("gales(0): an EMPTY one's GULL holds it", x.gales(0), 2);
        x.hear(0, 0, true);
        due("gales(0): it could not be heard", x.gales(0), 0);
        x.tear();
        x.hear(0, 0, false);
        due("gales(0): it was not there", x.gales(0), 2);
    }

    private static void listenBounds() {
        about("LISTEN: the greatest part that is alike is least; of like ones the least; NONE: none parts them");
        GullDeeds x = told(SEVEN);
        // At each house 16 of 22 are alike (its own gull is there), so the first.
        due("listen() of seven", x.listen(), 0);
        for (int g = 0; g < 5; g++) {
            x.hear(g, g, true);
            due("listen() with " + g + " at home", x.listen(), g + 1);
        }
        x.hear(5, 5, true);
        due("listen(): one is left", x.listen(), NONE);
        x.tear();
        x.hear(0, 0, true);
        x.hear(0, 0, false);
        due("listen(): nothing is left", x.listen(), NONE);
        x.tear();
        x.hear(6, 6, false);
        due("listen(): HOUSE 6 parts all six", x.listen(), 6);
        due("listen() of one GULL", told("q0;h1 0;h1 0;g0 9;").listen(), NONE);
        due("listen() of two", told("q0;h1 0;h1 0;g0 9;g0 9;").listen(), 0);
        due("listen() without a ROW", new GullDeeds().listen(), NONE);
        about("LISTEN: what GULL is there then (or none)");
        GullDeeds y = told("q99;h1 0;h1 50;h1 50;g0 99;g0 99;g0 99;");
        y.day(7);
        due("listen(): none at HOUSE 0, however it was", y.listen(), 1);
    }

    private static void writeBounds() {
        about("An entry behind THE BOOK (0 .. 9999): how many. UNKNOWN, OUTSIDE, FULL (20)");
        GullDeeds x = told("q0;h1 0;h1 0;");
        due("write(0, 0)", x.write(0, 0), 1);
        due("write(1, 9999)", x.write(1, 9999), 2);
        due("write(0, -1)", x.write(0, -1), OUTSIDE);
        due("write(0, 10000)", x.write(0, 10000), OUTSIDE);
        due("write(-1, 0)", x.write(-1, 0), UNKNOWN);
        due("write(2, 0)", x.write(2, 0), UNKNOWN);
        for (int i = 3; i <= 20; i++) due("write(0, 0)", x.write(0, 0), i);
        due("write(0, 0): a 21st", x.write(0, 0), FULL);
        due("told(16)", x.told(16), 20);
    }

    private static void judgeBounds() {
        about("WRONG: the first that is otherwise now; NONE");
        GullDeeds y = told("q0;" + "h1 1;".repeat(6) + "h1 7;");
        y.write(6, 7);
        y.write(0, 1);
        due("judge() of the last HOUSE and the first", y.judge(), NONE);
        y.write(6, 1);
        due("judge() of the last HOUSE", y.judge(), 2);
        GullDeeds x = told("q0;h1 5;g2 1;");
        due("judge() of none", x.judge(), NONE);
        for (int i = 0; i < 19; i++) x.write(0, 5);
        x.write(0, 6);
        due("judge(): the 20th", x.judge(), 19);
        x.day(1);
        due("judge(): the first", x.judge(), 0);
        x.undo(1);
        x.tear();
        x.write(0, 5);
        due("judge() of one", x.judge(), NONE);
        x.write(0, 4);
        due("judge(): one less", x.judge(), 1);
        x.tear();
        due("judge() behind tear()", x.judge(), NONE);
    }

    private static void tearBounds() {
        about("Nothing HEARD, no BOOK: how much both had");
        GullDeeds x = told(SEVEN);
        due("tear() of nothing", x.tear(), 0);
        for (int i = 0; i < 7; i++) x.hear(0, 0, true);
        for (int i = 0; i < 21; i++) x.write(0, 0);
        due("tear() of 6 and 20", x.tear(), 26);
        due("told(15)", x.told(15), 0);
        due("told(16)", x.told(16), 0);
        due("tear() again", x.tear(), 0);
        due("hear(0, 0, true)", x.hear(0, 0, true), 1);
        due("write(0, 0)", x.write(0, 0), 1);
        due("tear() of 1 and 1", x.tear(), 2);
    }
}
