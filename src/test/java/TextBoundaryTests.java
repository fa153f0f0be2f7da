/** Section 1 and promises 1 to 4: each sentence that names a boundary, at it and one beyond it. */
public final class TextBoundaryTests extends Check {
    private static final String FULL_ROW = "q1;" + "h1 0;".repeat(7) + "g0 1;".repeat(7);

    public static void main(String[] args) {
        newObject();
        letters();
        textAtMost();
        countOfCatches();
        boundsOfCatches();
        firstAndOnce();
        housesAtMost();
        boundsOfHouses();
        gullsAtMost();
        boundsOfGulls();
        gullsAtFirst();
        figures();
        words();
        blanks();
        withinNumbers();
        sideBySide();
        firstLetterThatHasOne();
        theEnd();
        theLeast();
        cannotStandThere();
        emptyText();
        rowAnswers();
        rowWithFault();
        rowBegins();
        rowAgainAndAgain();
        faultOfTheLatest();
        end("TextBoundaryTests");
    }

    private static String blanks(int n) {
        return " ".repeat(n);
    }

    private static void newObject() {
        about("GullDeeds(): No ROW");
        GullDeeds x = new GullDeeds();
        noRow(x);
        due("fault()", x.fault(), NONE);
        due("seed(0)", x.seed(0), 0);
    }

    private static void letters() {
        about("A letter (0 .. 255) comes behind THE TEXT: how many it has");
        GullDeeds x = new GullDeeds();
        due("feed(0)", x.feed(0), 1);
        due("feed(-1)", x.feed(-1), OUTSIDE);
        due("feed(255)", x.feed(255), 2);
        due("feed(256)", x.feed(256), OUTSIDE);
        due("feed(LOW)", x.feed(LOW), OUTSIDE);
        due("feed(HIGH)", x.feed(HIGH), OUTSIDE);
        due("told(3)", x.told(3), 2);
    }

    private static void textAtMost() {
        about("in a text (240 letters at most); FULL (240)");
        GullDeeds x = new GullDeeds();
        feedAll(x, FULL_ROW.substring(0, 72));
        for (int i = 73; i <= 239; i++) x.feed(' ');
        due("told(3)", x.told(3), 239);
        due("the 240th letter", x.feed(';'), 240);
        due("the 241st letter", x.feed('x'), FULL);
        due("told(3)", x.told(3), 240);
        due("row() of 240 letters", x.row(), 7);
        due("fault()", x.fault(), NONE);
        for (int i = 1; i <= 240; i++) due("a letter behind row()", x.feed(' '), i);
        due("the 241st letter behind row()", x.feed(' '), FULL);
        reads("q1;" + blanks(236) + "x", -11, 239);
        reads("q1;" + blanks(233) + "h1 0", -11, 240);
        reads("q1;h1 0;g0 " + blanks(228) + "1" + ";", -11, 240);
        reads("q1;h1 0;g0 " + blanks(227) + "1" + ";", 1, NONE);
    }

    private static void countOfCatches() {
        about("CATCH of days in turn, 1 to 12 numbers; a 13th C: at its ','");
        reads("q;", -11, 1);
        due("told(0) of one", reads("q7;", 0, NONE).told(0), 1);
        due("told(0) of two", reads("q7,8;", 0, NONE).told(0), 2);
        GullDeeds x = reads("q1,2,3,4,5,6,7,8,9,10,11,12;", 0, NONE);
        due("told(0) of twelve", x.told(0), 12);
        for (int n = 0; n < 12; n++) due("ahead(" + n + ") of twelve", x.ahead(n), n + 1);
        due("ahead(12) of twelve", x.ahead(12), 1);
        reads("q1,2,3,4,5,6,7,8,9,10,11,12,13;", -11, 27);
        reads("q1,2,3,4,5,6,7,8,9,10,11,12,;", -11, 27);
        reads("q1,2,3,4,5,6,7,8,9,10,11,12 , 13;", -11, 28);
        reads("q1,2,3,4,5,6,7,8,9,10,11,12", -11, 27);
    }

    private static void boundsOfCatches() {
        about("C: 0 .. 99");
        due("ahead(0)", reads("q0;", 0, NONE).ahead(0), 0);
        due("ahead(0)", reads("q99;", 0, NONE).ahead(0), 99);
        reads("q100;", -12, 1);
        reads("q-1;", -11, 1);
        GullDeeds x = reads("q1,1,1,1,1,1,1,1,1,1,0,99;", 0, NONE);
        due("ahead(10)", x.ahead(10), 0);
        due("ahead(11)", x.ahead(11), 99);
        reads("q1,1,1,1,1,1,1,1,1,1,1,100;", -12, 23);
    }

    private static void firstAndOnce() {
        about("'q' .. first, once; another word first than 'q': 1; 'q' again: 3");
        reads("h1 0;q1;", -11, 0);
        reads("g0 1;q1;", -11, 0);
        reads(";q1;", -11, 0);
        reads(",q1;", -11, 0);
        reads("1q1;", -11, 0);
        reads("q1;q1;", -13, 3);
        reads("q1;  q", -13, 5);
        reads("q1;h1 0;g0 1;q1;", -13, 13);
        reads("q1;q100;", -13, 3);
    }

    private static void housesAtMost() {
        about("7 HOUSES at most; an eighth 'h': 3 (at it)");
        GullDeeds x = reads("q1;" + "h1 0;".repeat(6) + "h9 99;", 7, NONE);
        due("told(1)", x.told(1), 7);
        due("house(6, 0)", x.house(6, 0), 9);
        due("house(6, 1)", x.house(6, 1), 99);
        due("house(7, 0)", x.house(7, 0), UNKNOWN);
        reads("q1;" + "h1 0;".repeat(7) + "h1 0;", -13, 38);
        reads("q1;" + "h1 0;".repeat(7) + " h", -13, 39);
        reads("q1;" + "h1 0;".repeat(7) + "h0 0;", -13, 38);
        reads("q1;" + "h1 0;".repeat(7) + "g0 1;h1 0;", -13, 43);
    }

    private static void boundsOfHouses() {
        about("owes N heads a day, 1 .. 9");
        reads("q1;h0 0;", -12, 4);
        due("house(0, 0)", reads("q1;h1 0;", 1, NONE).house(0, 0), 1);
        due("house(0, 0)", reads("q1;h9 0;", 1, NONE).house(0, 0), 9);
        reads("q1;h10 0;", -12, 4);
        about("DEBT D at first, 0 .. 99");
        due("house(0, 1)", reads("q1;h1 0;", 1, NONE).house(0, 1), 0);
        due("house(0, 1)", reads("q1;h1 99;", 1, NONE).house(0, 1), 99);
        reads("q1;h1 100;", -12, 6);
    }

    private static void gullsAtMost() {
        about("7 GULLS at most, no more than HOUSES told ahead; a 'g' more than there are HOUSES so far: 3 (at it)");
        reads("q1;g0 1;", -13, 3);
        reads("q1;g0 1;h1 0;", -13, 3);
        due("told(2)", reads("q1;h1 0;", 1, NONE).told(2), 0);
        due("told(2)", reads("q1;h1 0;g0 1;", 1, NONE).told(2), 1);
        reads("q1;h1 0;g0 1;g0 1;", -13, 13);
        reads("q1;h1 0;g0 1;g0 1;h1 0;", -13, 13);
        reads("q1;h1 0;g0 1;g9 0;", -13, 13);
        due("told(2)", reads("q1;h1 0;g0 1;h1 0;g0 1;", 2, NONE).told(2), 2);
        GullDeeds x = reads("q1;" + "h1 0;".repeat(7) + "g0 1;".repeat(6) + "g3 99;", 7, NONE);
        due("told(2) of seven", x.told(2), 7);
        due("gull(6, 0)", x.gull(6, 0), 3);
        due("gull(6, 1)", x.gull(6, 1), 99);
        due("gull(7, 0)", x.gull(7, 0), UNKNOWN);
        reads(FULL_ROW + "g0 1;", -13, 73);
        reads(FULL_ROW + "  g", -13, 75);
    }

    private static void boundsOfGulls() {
        about("KIND K, 0 .. 3");
        for (int kind = 0; kind <= 3; kind++) due("gull(0, 0)", reads("q1;h1 0;g" + kind + " 1;", 1, NONE).gull(0, 0), kind);
        reads("q1;h1 0;g4 1;", -12, 9);
        about("PATIENCE P, 1 .. 99");
        reads("q1;h1 0;g0 0;", -12, 11);
        due("gull(0, 1)", reads("q1;h1 0;g0 1;", 1, NONE).gull(0, 1), 1);
        due("gull(0, 1)", reads("q1;h1 0;g0 99;", 1, NONE).gull(0, 1), 99);
        reads("q1;h1 0;g0 100;", -12, 11);
    }

    private static void gullsAtFirst() {
        about("each holds the HOUSE of its own number at first");
        GullDeeds x = told("q1;" + "h1 0;".repeat(7) + "g0 1;".repeat(5));
        for (int n = 0; n < 7; n++) {
            due("house(" + n + ", 3)", x.house(n, 3), n < 5 ? n : NONE);
            due("house(" + n + ", 2)", x.house(n, 2), n < 5 ? 0 : 1);
            due("gull(" + n + ", 2)", x.gull(n, 2), n < 5 ? n : UNKNOWN);
        }
    }

    private static void figures() {
        about("NUMBERS have one to three figures; a NUMBER of four figures or more: 2 (at its first)");
        due("ahead(0)", reads("q7;", 0, NONE).ahead(0), 7);
        due("ahead(0)", reads("q07;", 0, NONE).ahead(0), 7);
        due("ahead(0)", reads("q007;", 0, NONE).ahead(0), 7);
        reads("q0007;", -12, 1);
        reads("q0000000007;", -12, 1);
        reads("q1,0007;", -12, 3);
        reads("q999;", -12, 1);
        reads("q1000;", -12, 1);
        reads("q" + "0".repeat(239), -12, 1);
        // Numbers that come round to 1 in 32 and in 64 bits.
        reads("q4294967297;", -12, 1);
        reads("q18446744073709551617;", -12, 1);
        GullDeeds x = reads("q1;h009 099;g003 099;", 1, NONE);
        due("house(0, 0)", x.house(0, 0), 9);
        due("house(0, 1)", x.house(0, 1), 99);
        due("gull(0, 0)", x.gull(0, 0), 3);
        due("gull(0, 1)", x.gull(0, 1), 99);
        reads("q1;h0009 0;", -12, 4);
        reads("q1;h9 0099;", -12, 6);
        reads("q1;h9 0;g0003 1;", -12, 9);
        reads("q1;h9 0;g3 0099;", -12, 11);
        about("figures are 48 .. 57");
        due("ahead(0)", reads("q09;", 0, NONE).ahead(0), 9);
        due("ahead(0)", reads("q90;", 0, NONE).ahead(0), 90);
        reads("q/;", -11, 1);
        reads("q:;", -11, 1);
        reads("q1/;", -11, 2);
        reads("q1:;", -11, 2);
    }

    private static void words() {
        about("a word is one letter");
        reads("qq1;", -11, 1);
        reads("q1;hh1 0;", -11, 4);
        reads("q1;h1 0;gg0 1;", -11, 9);
        reads("q1;;", -11, 3);
        reads("q1,,1;", -11, 3);
    }

    private static void blanks() {
        about("blanks (32) may stand anywhere but within NUMBERS");
        GullDeeds x = reads("  q  12  ,  3  ;  h  4  56  ;  g  2  78  ;  ", 1, NONE);
        due("ahead(0)", x.ahead(0), 12);
        due("ahead(1)", x.ahead(1), 3);
        due("house(0, 0)", x.house(0, 0), 4);
        due("house(0, 1)", x.house(0, 1), 56);
        due("gull(0, 0)", x.gull(0, 0), 2);
        due("gull(0, 1)", x.gull(0, 1), 78);
        for (char odd : new char[] {0, 9, 10, 31, 33, 160, 255}) {
            reads(odd + "q1;", -11, 0);
            reads("q" + odd + "1;", -11, 1);
            reads("q1" + odd + ";", -11, 2);
            reads("q1;" + odd, -11, 3);
            reads("q1;h1" + odd + "1;", -11, 5);
        }
    }

    private static void withinNumbers() {
        about("no blanks within NUMBERS");
        reads("q1 2;", -11, 3);
        reads("q1,1 2;", -11, 5);
        reads("q1;h1 2 3;", -11, 8);
        reads("q1;h1 0;g1 2 3;", -11, 13);
    }

    private static void sideBySide() {
        about("two NUMBERS side by side need one");
        reads("q1;h12;", -12, 4);
        reads("q1;h01;", -11, 6);
        reads("q1;h1 2;", 1, NONE);
        reads("q1;h1  2;", 1, NONE);
        reads("q1;h1 0;g11;", -12, 9);
        reads("q1;h1 0;g01;", -11, 11);
        reads("q1;h1 0;g0 1;", 1, NONE);
    }

    private static void firstLetterThatHasOne() {
        about("FAULTS, at the first letter that has one");
        reads("q100;x", -12, 1);
        reads("q1000x", -12, 1);
        reads("q100", -12, 1);
        reads("q1;q1;x", -13, 3);
        reads("q1;x;q", -11, 3);
        reads("q1;h0 100;", -12, 4);
        reads("q1;h0;", -12, 4);
        reads("q1;h1 0;g4 0;", -12, 9);
        reads("q1;h1 0x;g4 0;", -11, 7);
    }

    private static void theEnd() {
        about("the end at the text's length");
        String whole = "q1,2;h1 0;g0 1;";
        for (int n = 1; n < whole.length(); n++) {
            boolean complete = n == 5 || n == 10;
            reads(whole.substring(0, n), complete ? n / 10 : -11, complete ? NONE : n);
            reads(whole.substring(0, n) + "  ", complete ? n / 10 : -11, complete ? NONE : n + 2);
        }
        reads(whole, 1, NONE);
    }

    private static void theLeast() {
        about("of these the least");
        reads("q1 1000;", -11, 3);
        reads("1000;", -11, 0);
        reads("q1;1000;", -11, 3);
        reads("q1;h1 0 1000;", -11, 8);
        reads("q1;h1 0;g0 1 100;", -11, 13);
        reads("g0 1;", -11, 0);
        reads("q1,2,3,4,5,6,7,8,9,10,11,12,1000;", -11, 27);
    }

    private static void cannotStandThere() {
        about("1 it cannot stand there (a letter that is no word)");
        for (char letter = 0; letter <= 255; letter++) {
            boolean stands = letter == ' ' || letter == 'h';
            if (!stands && letter != 'q' && letter != 'g') reads("q1;" + letter, -11, 3);
            boolean behindC = letter == ' ' || letter == ',' || letter == ';' || letter >= '0' && letter <= '9';
            if (!behindC) reads("q1" + letter, -11, 2);
            boolean behindD = letter == ' ' || letter == ';' || letter >= '0' && letter <= '9';
            if (!behindD) reads("q1;h1 2" + letter, -11, 7);
        }
        reads("Q1;", -11, 0);
        reads("q1;H1 0;", -11, 3);
        reads("q1;h1 0;G0 1;", -11, 8);
        reads("q1;h1,0;", -11, 5);
        reads("q1;h1 0;g0,1;", -11, 10);
    }

    private static void emptyText() {
        about("An empty text: no ROW");
        GullDeeds x = told(FULL_ROW);
        x.seed(9);
        x.keep(0);
        x.day(2);
        x.hear(0, 0, true);
        x.write(0, 0);
        due("row() of nothing", x.row(), 0);
        due("fault()", x.fault(), NONE);
        noRow(x);
        due("seed(0)", x.seed(0), 9);
        about("one clause: a ROW without HOUSES");
        GullDeeds y = reads("q1;", 0, NONE);
        due("ahead(0)", y.ahead(0), 1);
        due("day(1)", y.day(1), 1);
        due("lend(1)", y.lend(1), 2);
        due("drift(1): 0 is drawn, and heads of 20", y.drift(1), 3 + drawBehind(12345, 20));
        due("told(7)", y.told(7), 0);
        due("told(13)", y.told(13), NONE);
        due("house(0, 0)", y.house(0, 0), UNKNOWN);
        due("undo(3)", y.undo(3), 0);
    }

    private static int drawBehind(long seed, int n) {
        return (int) ((seed * 1103515245L + 12345L) % 2147483648L / 65536 % n);
    }

    private static void rowAnswers() {
        about("how many HOUSES; -10 less the number of its FAULT");
        for (int n = 0; n <= 7; n++) reads("q1;" + "h1 0;".repeat(n), n, NONE);
        reads("x", -11, 0);
        reads("q100;", -12, 1);
        reads("q1;q", -13, 3);
    }

    private static GullDeeds busy() {
        GullDeeds x = told("q5;h3 0;h3 0;g0 9;g1 9;");
        x.seed(4);
        x.day(8);
        x.keep(1);
        x.lend(3);
        x.hear(0, 0, true);
        x.write(0, 0);
        return x;
    }

    private static void rowWithFault() {
        about("THE TEXT is empty then, with a FAULT, too; all is as it was");
        for (String text : new String[] {"x", "q1;h1 0;h1 0;h1 0;g3 3;g3 3;g3 3;q", "q7,100;", "q7;h1 0;h1 0;h1 100;"}) {
            GullDeeds x = busy();
            GullDeeds y = busy();
            feedAll(x, text);
            due("row()", x.row() < -10 ? 1 : 0, 1);
            for (int what = 0; what <= 17; what++) due("told(" + what + ")", x.told(what), y.told(what));
            alike("what is so", picture(x), picture(y));
            due("ahead(0)", x.ahead(0), 5);
            for (int g = 0; g < 2; g++) for (int what = 0; what < 3; what++) due("gull", x.gull(g, what), y.gull(g, what));
            due("gales(1)", x.gales(1), y.gales(1));
            due("judge()", x.judge(), y.judge());
            due("undo(1)", x.undo(1), 8);
            due("goBack(1)", x.goBack(1), 1);
            due("goBack(0)", x.goBack(0), NOT);
            due("seed(0)", x.seed(0), 4);
            due("row() anew: no letter is left", x.row(), 0);
        }
    }

    private static void rowBegins() {
        about("DAY 0, THE STOCK 0, THE LOG is empty; nothing HEARD, no BOOK; IMAGES, what could be undone are gone; THE SEED stays");
        GullDeeds x = busy();
        x.stone(0);
        feedAll(x, "q5;h3 1;h3 2;h3 3;g0 9;g3 9;g1 9;");
        due("row()", x.row(), 3);
        alike("what is so", picture(x), picture(told("q5;h3 1;h3 2;h3 3;g0 9;g3 9;g1 9;")));
        for (int what = 14; what <= 17; what++) due("told(" + what + ")", x.told(what), 0);
        due("goBack(0)", x.goBack(0), NOT);
        due("goBack(1)", x.goBack(1), NOT);
        due("undo(1)", x.undo(1), NOT);
        due("seed(0)", x.seed(0), 4);
        about("row(): GOOD DAYS, WEIGHT, PUT OUT, the GULLS begin anew");
        String row = "q9;h1 0;h1 9;h1 0;g0 9;g3 9;g0 9;";
        GullDeeds y = told(row);
        y.day(2);
        y.bread(1, 5);
        y.swap(0, 1);
        y.day(2);
        y.stone(2);
        feedAll(y, row);
        due("row()", y.row(), 3);
        alike("what is so", picture(y), picture(told(row)));
    }

    /** What a text told is gone with it, whether it had a fault or not. */
    private static void rowAgainAndAgain() {
        about("row(): THE TEXT becomes THE ROW, whatever was told ahead of it");
        String[] texts = {"q1,2,3;h1 0;h2 0;g0 1;g1 2;", "q4;h3 5;", "x", "q6,7;h1 0;g0 1;x", "q8;", "q6,7;h1 0;g0 1;", "q1;h4 4;h4 4;g0 1;q", "q5,5;h6 6;"};
        int[] answers = {2, 1, -11, -11, 0, 1, -13, 1};
        int[] places = {NONE, NONE, 0, 15, NONE, NONE, 18, NONE};
        int[][] counts = {{3, 2, 2}, {1, 1, 0}, {1, 1, 0}, {1, 1, 0}, {1, 0, 0}, {2, 1, 1}, {2, 1, 1}, {2, 1, 0}};
        GullDeeds x = new GullDeeds();
        for (int i = 0; i < texts.length; i++) {
            feedAll(x, texts[i]);
            due("row() of " + texts[i], x.row(), answers[i]);
            due("fault() of " + texts[i], x.fault(), places[i]);
            for (int what = 0; what < 3; what++) due("told(" + what + ") behind " + texts[i], x.told(what), counts[i][what]);
        }
        feedAll(x, "h1 0;");
        due("row(): 'h' first", x.row(), -11);
        due("fault(): 'h' first", x.fault(), 0);
        due("house(0, 0)", x.house(0, 0), 6);
        due("ahead(0)", x.ahead(0), 5);
    }

    private static void faultOfTheLatest() {
        about("The letter of the FAULT of the latest row(); NONE");
        GullDeeds x = new GullDeeds();
        due("fault() ahead of row()", x.fault(), NONE);
        x.feed('x');
        due("fault() ahead of row()", x.fault(), NONE);
        x.row();
        due("fault() of the first letter", x.fault(), 0);
        feedAll(x, "q1;");
        due("fault() ahead of the next row()", x.fault(), 0);
        x.row();
        due("fault() of none", x.fault(), NONE);
        feedAll(x, "q");
        for (int i = 2; i <= 240; i++) x.feed(' ');
        x.row();
        due("fault() of the end", x.fault(), 240);
        x.row();
        due("fault() of the empty text", x.fault(), NONE);
    }
}
