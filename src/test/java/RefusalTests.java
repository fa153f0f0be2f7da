import java.util.function.Supplier;
import java.util.function.ToIntFunction;

/**
 * "REFUSALS, of several the first in this order: UNKNOWN, OUTSIDE, NOT, FULL. What is refused changes nothing."
 * Each refusal of each call, alone and with those behind it in the order, and that all is as it was.
 */
public final class RefusalTests extends Check {
    private static final int[] NO_HOUSE = {-1, 4, LOW, HIGH};
    private static final int[] NO_GULL = {-1, 3, LOW, HIGH};
    private static final int[] NO_IMAGE = {-1, 2, LOW, HIGH};

    public static void main(String[] args) {
        about("REFUSALS are far below all that is counted: -1000000001 and on");
        due("NONE", GullDeeds.NONE, -1);
        due("UNKNOWN", GullDeeds.UNKNOWN, -1000000001);
        due("OUTSIDE", GullDeeds.OUTSIDE, -1000000002);
        due("NOT", GullDeeds.NOT, -1000000003);
        due("FULL", GullDeeds.FULL, -1000000004);
        about("what the refused calls come to");
        int[] standing = {0, 0, 2, 1};
        for (int h = 0; h < 4; h++) due("house(" + h + ", 2)", busy().house(h, 2), standing[h]);
        due("told(17)", busy().told(17), 7);
        theRow();
        deeds();
        tried();
        heardAndImages();
        full();
        late();
        withoutRow();
        end("RefusalTests");
    }

    /** House 0 held by a gull that takes bread, 1 by a black back, 2 empty with a gull, 3 free; seven deeds, a log, an image, letters. */
    private static GullDeeds busy() {
        GullDeeds x = told("q4,0,9;h3 20;h2 9;h1 4;h2 7;g3 90;g2 5;g1 99;");
        x.seed(77);
        x.day(3);
        x.keep(0);
        x.bread(0, 4);
        x.lend(5);
        x.stone(2);
        x.swap(1, 2);
        x.day(2);
        x.lend(3);
        x.hear(0, 1, false);
        x.write(0, 6);
        feedAll(x, "q1;h");
        return x;
    }

    /** Nothing more can be heard, written or fed. */
    private static GullDeeds brimming() {
        GullDeeds x = busy();
        for (int i = 0; i < 6; i++) x.hear(1, 1, false);
        for (int i = 0; i < 20; i++) x.write(1, 8);
        for (int i = 0; i < 236; i++) x.feed(' ');
        return x;
    }

    private static GullDeeds ended() {
        GullDeeds x = told("q1;h1 0;g2 9;");
        days(x, 9000);
        x.day(1);
        return x;
    }

    private static GullDeeds withoutARow() {
        GullDeeds x = new GullDeeds();
        x.seed(5);
        feedAll(x, "q1;h");
        return x;
    }

    /** All that can be asked, and all that can be gone back to; the object is used up by it. */
    private static String whole(GullDeeds x) {
        StringBuilder all = new StringBuilder();
        for (int what = 0; what <= 17; what++) all.append(x.told(what)).append(' ');
        all.append(picture(x)).append("| ");
        for (int g = 0; g < x.told(2); g++) all.append(x.gull(g, 0)).append(' ').append(x.gull(g, 1)).append(' ').append(x.gull(g, 2)).append(' ');
        all.append(x.ahead(0)).append(' ').append(x.gales(0)).append(' ').append(x.gales(1)).append(' ').append(x.judge()).append(' ');
        all.append(x.fault()).append(' ').append(x.seed(1)).append(' ').append(x.tear()).append("| ");
        while (x.undo(1) != NOT) all.append(x.told(4)).append(' ').append(x.told(5)).append(' ').append(x.told(10)).append(' ');
        for (int i = 0; i < 2; i++) all.append(x.goBack(i)).append(' ').append(x.told(4)).append(' ').append(x.seed(2)).append(' ');
        return all.append(x.row()).append(' ').append(x.fault()).toString();
    }

    private static void refused(Supplier<GullDeeds> made, int want, String call, ToIntFunction<GullDeeds> calls) {
        about("refused: " + call);
        GullDeeds x = made.get();
        due(call, calls.applyAsInt(x), want);
        alike("all behind it", whole(x), whole(made.get()));
    }

    private static void refused(int want, String call, ToIntFunction<GullDeeds> calls) {
        refused(RefusalTests::busy, want, call, calls);
    }

    private static void theRow() {
        for (int letter : new int[] {-1, 256, LOW, HIGH}) refused(OUTSIDE, "feed(" + letter + ")", x -> x.feed(letter));
        for (int what : new int[] {-1, 18, LOW, HIGH}) refused(OUTSIDE, "told(" + what + ")", x -> x.told(what));
        for (int h : NO_HOUSE) {
            refused(UNKNOWN, "house(" + h + ", 0)", x -> x.house(h, 0));
            refused(UNKNOWN, "house(" + h + ", 6): OUTSIDE, too", x -> x.house(h, 6));
        }
        for (int what : new int[] {-1, 6, LOW, HIGH}) refused(OUTSIDE, "house(0, " + what + ")", x -> x.house(0, what));
        for (int g : NO_GULL) {
            refused(UNKNOWN, "gull(" + g + ", 0)", x -> x.gull(g, 0));
            refused(UNKNOWN, "gull(" + g + ", 3): OUTSIDE, too", x -> x.gull(g, 3));
        }
        for (int what : new int[] {-1, 3, LOW, HIGH}) {
            refused(OUTSIDE, "gull(0, " + what + ")", x -> x.gull(0, what));
            refused(OUTSIDE, "logged(0, " + what + ")", x -> x.logged(0, what));
            refused(OUTSIDE, "logged(99, " + what + ")", x -> x.logged(99, what));
        }
        for (int n : new int[] {-1, 61, LOW, HIGH}) refused(OUTSIDE, "ahead(" + n + ")", x -> x.ahead(n));
    }

    private static void deeds() {
        for (int n : new int[] {-1, 0, 31, LOW, HIGH}) {
            refused(OUTSIDE, "day(" + n + ")", x -> x.day(n));
            refused(OUTSIDE, "drift(" + n + ")", x -> x.drift(n));
            refused(OUTSIDE, "undo(" + n + ")", x -> x.undo(n));
        }
        for (int n : new int[] {-1, 0, 1000, LOW, HIGH}) refused(OUTSIDE, "lend(" + n + ")", x -> x.lend(n));
        for (int h : NO_HOUSE) {
            refused(UNKNOWN, "pay(" + h + ", 1)", x -> x.pay(h, 1));
            refused(UNKNOWN, "pay(" + h + ", 0): OUTSIDE, too", x -> x.pay(h, 0));
            refused(UNKNOWN, "bread(" + h + ", 1)", x -> x.bread(h, 1));
            refused(UNKNOWN, "bread(" + h + ", 10): OUTSIDE, too", x -> x.bread(h, 10));
            refused(UNKNOWN, "stone(" + h + ")", x -> x.stone(h));
            refused(UNKNOWN, "swap(" + h + ", 0)", x -> x.swap(h, 0));
            refused(UNKNOWN, "swap(0, " + h + ")", x -> x.swap(0, h));
            refused(UNKNOWN, "swap(" + h + ", 3): NOT, too", x -> x.swap(h, 3));
            refused(UNKNOWN, "swap(3, " + h + "): NOT, too", x -> x.swap(3, h));
            refused(UNKNOWN, "swap(" + h + ", " + h + ")", x -> x.swap(h, h));
        }
        for (int h = 0; h < 4; h++) {
            int same = h;
            refused(UNKNOWN, "swap(" + h + ", " + h + "): one twice", x -> x.swap(same, same));
        }
        for (int n : new int[] {-1, 0, 100, LOW, HIGH}) {
            refused(OUTSIDE, "pay(0, " + n + ")", x -> x.pay(0, n));
            refused(OUTSIDE, "pay(3, " + n + "): NOT, too", x -> x.pay(3, n));
        }
        for (int n : new int[] {-1, 0, 10, LOW, HIGH}) {
            refused(OUTSIDE, "bread(0, " + n + ")", x -> x.bread(0, n));
            refused(OUTSIDE, "bread(1, " + n + "): NOT, too", x -> x.bread(1, n));
        }
        refused(NOT, "pay(0, 99): neither so many heads nor so much DEBT", x -> x.pay(0, 99));
        refused(NOT, "pay(2, 1): EMPTY", x -> x.pay(2, 1));
        refused(NOT, "pay(3, 1): FREE", x -> x.pay(3, 1));
        refused(NOT, "bread(1, 1): another KIND", x -> x.bread(1, 1));
        refused(NOT, "bread(2, 1): EMPTY", x -> x.bread(2, 1));
        refused(NOT, "bread(3, 1): FREE", x -> x.bread(3, 1));
        refused(NOT, "stone(2): EMPTY", x -> x.stone(2));
        refused(NOT, "swap(0, 3): no GULL", x -> x.swap(0, 3));
        refused(NOT, "swap(3, 0): no GULL", x -> x.swap(3, 0));
        refused(NOT, "undo(8): seven deeds", x -> x.undo(8));
        refused(NOT, "undo(30): seven deeds", x -> x.undo(30));
    }

    private static void tried() {
        for (int h : NO_HOUSE) {
            refused(UNKNOWN, "owes(" + h + ", 0)", x -> x.owes(h, 0));
            refused(UNKNOWN, "owes(" + h + ", 61): OUTSIDE, too", x -> x.owes(h, 61));
            refused(UNKNOWN, "mostBread(" + h + ")", x -> x.mostBread(h));
        }
        for (int g : NO_GULL) refused(UNKNOWN, "home(" + g + ")", x -> x.home(g));
        for (int n : new int[] {-1, 61, LOW, HIGH}) {
            refused(OUTSIDE, "owes(0, " + n + ")", x -> x.owes(0, n));
            refused(OUTSIDE, "outBy(" + n + ")", x -> x.outBy(n));
            refused(OUTSIDE, "redeemedBy(" + n + ")", x -> x.redeemedBy(n));
            refused(OUTSIDE, "loan(" + n + ")", x -> x.loan(n));
            refused(OUTSIDE, "bestSwap(" + n + ", 0)", x -> x.bestSwap(n, 0));
            refused(OUTSIDE, "bestSwap(" + n + ", 2)", x -> x.bestSwap(n, 2));
            refused(OUTSIDE, "sure(" + n + ", 0)", x -> x.sure(n, 0));
        }
        for (int what : new int[] {-1, 2, LOW, HIGH}) {
            refused(OUTSIDE, "firstOut(" + what + ")", x -> x.firstOut(what));
            refused(OUTSIDE, "clear(" + what + ")", x -> x.clear(what));
            refused(OUTSIDE, "bestSwap(0, " + what + ")", x -> x.bestSwap(0, what));
        }
        for (int q : new int[] {-1, 101, LOW, HIGH}) refused(OUTSIDE, "sure(0, " + q + ")", x -> x.sure(0, q));
    }

    private static void heardAndImages() {
        for (int g : NO_GULL) {
            refused(UNKNOWN, "hear(" + g + ", 0, true)", x -> x.hear(g, 0, true));
            refused(RefusalTests::brimming, UNKNOWN, "hear(" + g + ", 0, true): FULL, too", x -> x.hear(g, 0, true));
        }
        for (int h : NO_HOUSE) {
            refused(UNKNOWN, "hear(0, " + h + ", false)", x -> x.hear(0, h, false));
            refused(UNKNOWN, "write(" + h + ", 0)", x -> x.write(h, 0));
            refused(UNKNOWN, "write(" + h + ", -1): OUTSIDE, too", x -> x.write(h, -1));
            refused(RefusalTests::brimming, UNKNOWN, "write(" + h + ", 10000): OUTSIDE and FULL, too", x -> x.write(h, 10000));
        }
        for (int what : new int[] {-1, 2, LOW, HIGH}) refused(OUTSIDE, "gales(" + what + ")", x -> x.gales(what));
        for (int debt : new int[] {-1, 10000, LOW, HIGH}) {
            refused(OUTSIDE, "write(0, " + debt + ")", x -> x.write(0, debt));
            refused(RefusalTests::brimming, OUTSIDE, "write(0, " + debt + "): FULL, too", x -> x.write(0, debt));
        }
        for (int v : new int[] {-1, LOW}) refused(OUTSIDE, "seed(" + v + ")", x -> x.seed(v));
        for (int i : NO_IMAGE) {
            refused(UNKNOWN, "keep(" + i + ")", x -> x.keep(i));
            refused(UNKNOWN, "goBack(" + i + ")", x -> x.goBack(i));
        }
        refused(NOT, "goBack(1): it was not kept", x -> x.goBack(1));
    }

    private static void full() {
        refused(RefusalTests::brimming, FULL, "feed('h') behind 240", x -> x.feed('h'));
        refused(RefusalTests::brimming, OUTSIDE, "feed(256) behind 240", x -> x.feed(256));
        refused(RefusalTests::brimming, FULL, "hear(0, 0, true) behind 6", x -> x.hear(0, 0, true));
        refused(RefusalTests::brimming, FULL, "write(0, 0) behind 20", x -> x.write(0, 0));
    }

    private static void late() {
        for (int n : new int[] {1, 30}) {
            refused(RefusalTests::ended, FULL, "day(" + n + ") behind 9001 DAYS", x -> x.day(n));
            refused(RefusalTests::ended, FULL, "drift(" + n + ") behind 9001 DAYS", x -> x.drift(n));
        }
        for (int n : new int[] {0, 31}) {
            refused(RefusalTests::ended, OUTSIDE, "day(" + n + ") behind 9001 DAYS", x -> x.day(n));
            refused(RefusalTests::ended, OUTSIDE, "drift(" + n + ") behind 9001 DAYS", x -> x.drift(n));
        }
    }

    private static void withoutRow() {
        Supplier<GullDeeds> made = RefusalTests::withoutARow;
        refused(made, NOT, "ahead(0) without a ROW", x -> x.ahead(0));
        refused(made, OUTSIDE, "ahead(61) without a ROW", x -> x.ahead(61));
        refused(made, NOT, "day(1) without a ROW", x -> x.day(1));
        refused(made, OUTSIDE, "day(31) without a ROW", x -> x.day(31));
        refused(made, NOT, "drift(1) without a ROW", x -> x.drift(1));
        refused(made, OUTSIDE, "drift(0) without a ROW", x -> x.drift(0));
        refused(made, NOT, "lend(1) without a ROW", x -> x.lend(1));
        refused(made, OUTSIDE, "lend(0) without a ROW", x -> x.lend(0));
        refused(made, NOT, "undo(1) without a ROW", x -> x.undo(1));
        refused(made, OUTSIDE, "undo(31) without a ROW", x -> x.undo(31));
        refused(made, NOT, "goBack(0) without a ROW", x -> x.goBack(0));
        refused(made, UNKNOWN, "house(0, 0) without a ROW", x -> x.house(0, 0));
        refused(made, UNKNOWN, "gull(0, 0) without a ROW", x -> x.gull(0, 0));
        refused(made, UNKNOWN, "pay(0, 1) without a ROW", x -> x.pay(0, 1));
        refused(made, UNKNOWN, "bread(0, 1) without a ROW", x -> x.bread(0, 1));
        refused(made, UNKNOWN, "stone(0) without a ROW", x -> x.stone(0));
        refused(made, UNKNOWN, "swap(0, 1) without a ROW", x -> x.swap(0, 1));
        refused(made, UNKNOWN, "owes(0, 0) without a ROW", x -> x.owes(0, 0));
        refused(made, UNKNOWN, "home(0) without a ROW", x -> x.home(0));
        refused(made, UNKNOWN, "mostBread(0) without a ROW", x -> x.mostBread(0));
        refused(made, UNKNOWN, "hear(0, 0, true) without a ROW", x -> x.hear(0, 0, true));
        refused(made, UNKNOWN, "write(0, 0) without a ROW", x -> x.write(0, 0));
    }
}
