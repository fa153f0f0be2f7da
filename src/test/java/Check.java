/** What the tests by hand share: they extend it, so that its functions bear plain names there. */
abstract class Check {
    static final int NONE = -1, UNKNOWN = -1000000001, OUTSIDE = -1000000002, NOT = -1000000003, FULL = -1000000004;
    static final int LOW = Integer.MIN_VALUE, HIGH = Integer.MAX_VALUE;

    private static int checked = 0;
    private static int wrong = 0;
    private static String subject = "";

    /** What the checks that follow are about: a promise, or a sentence of the document. */
    static void about(String sentence) {
        subject = sentence;
    }

    static void due(String call, int got, int want) {
        checked++;
        if (got != want) {
            wrong++;
            System.out.println(subject + ": " + call + " answered " + got + ", due is " + want);
        }
    }

    static void alike(String what, String got, String want) {
        checked++;
        if (!got.equals(want)) {
            wrong++;
            System.out.println(subject + ": " + what + " is " + got + ", due is " + want);
        }
    }

    static void end(String name) {
        System.out.println(name + ": " + checked + " answers, " + (wrong == 0 ? "all as due" : wrong + " not as due"));
        if (wrong != 0) System.exit(1);
    }

    static void feedAll(GullDeeds x, String text) {
        for (int i = 0; i < text.length(); i++) x.feed(text.charAt(i));
    }

    static GullDeeds told(String text) {
        GullDeeds x = new GullDeeds();
        feedAll(x, text);
        x.row();
        return x;
    }

    /** What row() and fault() answer to a text on a new object, and that the text is empty then. */
    static GullDeeds reads(String text, int answer, int place) {
        GullDeeds x = new GullDeeds();
        feedAll(x, text);
        due("row() of \"" + text + "\"", x.row(), answer);
        due("fault() of \"" + text + "\"", x.fault(), place);
        due("told(3) behind \"" + text + "\"", x.told(3), 0);
        return x;
    }

    /** That there is no ROW, by all that can be asked without one. */
    static void noRow(GullDeeds x) {
        for (int what = 0; what <= 17; what++) due("told(" + what + ")", x.told(what), what == 13 ? NONE : 0);
        due("house(0, 0)", x.house(0, 0), UNKNOWN);
        due("gull(0, 0)", x.gull(0, 0), UNKNOWN);
        due("ahead(0)", x.ahead(0), NOT);
        due("day(1)", x.day(1), NOT);
        due("drift(1)", x.drift(1), NOT);
        due("lend(1)", x.lend(1), NOT);
        due("undo(1)", x.undo(1), NOT);
        due("goBack(0)", x.goBack(0), NOT);
        due("logged(0, 0)", x.logged(0, 0), NONE);
    }

    static void days(GullDeeds x, int n) {
        for (int left = n; left > 0; left -= 30) x.day(Math.min(30, left));
    }

    static void lendAll(GullDeeds x, int heads) {
        for (int left = heads; left > 0; left -= 999) x.lend(Math.min(999, left));
    }

    /** All of section 2 that can be asked, as one text. */
    static String picture(GullDeeds x) {
        StringBuilder all = new StringBuilder();
        for (int what = 4; what <= 14; what++) all.append(x.told(what)).append(' ');
        int houses = x.told(1);
        for (int h = 0; h < houses; h++) for (int what = 0; what < 6; what++) all.append(x.house(h, what)).append(' ');
        int cries = x.told(14);
        for (int i = 0; i < cries; i++) for (int what = 0; what < 3; what++) all.append(x.logged(i, what)).append(' ');
        return all.toString();
    }
}
