import java.util.ArrayList;
import java.util.List;
import java.util.Random;

/** Random runs of calls, each answer compared with that of the second reading in Model. */
public final class ModelTests {
    private static final int RUNS = 5000;
    private static final int CALLS = 512;
    private static int wrong = 0;

    private final Random random;
    private final GullDeeds deeds = new GullDeeds();
    private final Model model = new Model();
    private final List<String> calls = new ArrayList<>();
    private boolean failed = false;

    private ModelTests(long seed) {
        random = new Random(seed);
    }

    public static void main(String[] args) {
        for (int run = 0; run < RUNS; run++) {
            new ModelTests(run).play(run);
        }
        System.out.println(wrong == 0 ? "ModelTests: all answers are alike" : "ModelTests: " + wrong + " runs differ");
        if (wrong != 0) System.exit(1);
    }

    private void play(int run) {
        if (run % 10 == 1) beginAtTheBounds();
        while (calls.size() < CALLS && !failed) {
            if (calls.isEmpty() && run % 8 != 0 || random.nextInt(150) == 0) {
                feedAll(randomText());
            } else {
                callSome();
            }
        }
        if (failed) {
            wrong++;
            System.out.println("run " + run + ": " + calls);
        }
    }

    /** Bounds that a run of chance hardly comes to: a stock and a debt of 9999, the days above 9000. */
    private void beginAtTheBounds() {
        feedAll(randomText());
        int most = below(3);
        for (int i = 0; i < 10 && most == 0; i++) same("lend(999)", deeds.lend(999), model.lend(999));
        int times = most == 1 ? 36 + below(6) : most == 2 ? 299 + below(3) : 0;
        for (int i = 0; i < times && calls.size() < CALLS; i++) same("day(30)", deeds.day(30), model.day(30));
    }

    private void same(String call, int got, int want) {
        calls.add(call + "=" + got);
        if (got != want && !failed) {
            failed = true;
            calls.add("due is " + want);
        }
    }

    private void feedAll(String text) {
        if (calls.size() + text.length() + 2 > CALLS) {
            callSome();
            return;
        }
        for (int i = 0; i < text.length(); i++) {
            int c = text.charAt(i);
            same("feed(" + c + ")", deeds.feed(c), model.feed(c));
        }
        same("row()", deeds.row(), model.row());
        same("fault()", deeds.fault(), model.fault());
    }

    private int below(int n) {
        return random.nextInt(n);
    }

    private String blanks() {
        return below(12) == 0 ? " ".repeat(1 + below(2)) : "";
    }

    private String randomText() {
        StringBuilder text = new StringBuilder(blanks()).append("q");
        int catches = 1 + below(below(4) == 0 ? 13 : 4);
        int plenty = 1 + below(40);
        for (int i = 0; i < catches; i++) {
            text.append(i == 0 ? "" : ",").append(blanks()).append(below(plenty)).append(blanks());
        }
        text.append(";");
        int houses = below(6) == 0 ? below(9) : 2 + below(6);
        int gulls = below(3) == 0 ? Math.min(houses, below(9)) : Math.min(houses, 7);
        if (below(20) == 0) gulls++;
        int told = 0;
        for (int h = 0; h < houses; h++) {
            text.append("h").append(blanks()).append(1 + below(9)).append(" ").append(below(below(3) == 0 ? 100 : 9)).append(blanks()).append(";");
            if (told < gulls && below(3) == 0) {
                text.append(gullClause());
                told++;
            }
        }
        while (told++ < gulls) text.append(gullClause());
        String all = text.toString();
        if (below(4) == 0 && !all.isEmpty()) {
            int at = below(all.length());
            String odd = "qhg,; 0189x".charAt(below(11)) + "";
            all = all.substring(0, at) + (below(3) == 0 ? "" : odd) + all.substring(at + below(2));
        }
        return all;
    }

    private String gullClause() {
        return "g" + blanks() + below(4) + " " + blanks() + (1 + below(below(2) == 0 ? 99 : 20)) + blanks() + ";";
    }

    /** Mostly within the bounds, now and then just outside or far off. */
    private int number(int least, int most) {
        switch (below(25)) {
            case 0: return least - 1;
            case 1: return most + 1;
            case 2: return below(2) == 0 ? Integer.MIN_VALUE : Integer.MAX_VALUE;
            case 3: return least;
            case 4: return most;
            default: return least + below(most - least + 1);
        }
    }

    private int aHouse() {
        return below(20) == 0 ? number(0, 6) : below(Math.max(1, model.told(1)));
    }

    private int aGull() {
        return below(20) == 0 ? number(0, 6) : below(Math.max(1, model.told(2)));
    }

    private void callSome() {
        int which = below(100);
        if (which < 45) ask(); else if (which < 80) act(); else attempt();
    }

    private void ask() {
        int a;
        int b;
        switch (below(14)) {
            case 0: case 1: case 2: case 3: a = number(0, 17); same("told(" + a + ")", deeds.told(a), model.told(a)); break;
            case 4: case 5: case 6: a = aHouse(); b = number(0, 5); same("house(" + a + "," + b + ")", deeds.house(a, b), model.house(a, b)); break;
            case 7: case 8: a = aGull(); b = number(0, 2); same("gull(" + a + "," + b + ")", deeds.gull(a, b), model.gull(a, b)); break;
            case 9: a = number(0, 60); same("ahead(" + a + ")", deeds.ahead(a), model.ahead(a)); break;
            case 10: a = number(0, 20); b = number(0, 2); same("logged(" + a + "," + b + ")", deeds.logged(a, b), model.logged(a, b)); break;
            case 11: a = number(0, 1); same("gales(" + a + ")", deeds.gales(a), model.gales(a)); break;
            case 12: same("listen()", deeds.listen(), model.listen()); break;
            default: same("judge()", deeds.judge(), model.judge()); break;
        }
    }

    private void act() {
        int a;
        int b;
        boolean c;
        switch (below(20)) {
            case 0: case 1: a = below(4) == 0 ? number(1, 30) : 1 + below(4); same("day(" + a + ")", deeds.day(a), model.day(a)); break;
            case 2: case 3: case 4: a = aHouse(); b = below(2) == 0 ? number(1, 99) : number(1, 9); same("pay(" + a + "," + b + ")", deeds.pay(a, b), model.pay(a, b)); break;
            case 5: case 6: a = aHouse(); b = number(1, 9); same("bread(" + a + "," + b + ")", deeds.bread(a, b), model.bread(a, b)); break;
            case 7: if (below(3) > 0) break; a = aHouse(); same("stone(" + a + ")", deeds.stone(a), model.stone(a)); break;
            case 8: a = below(3) == 0 ? number(1, 999) : 1 + below(30); same("lend(" + a + ")", deeds.lend(a), model.lend(a)); break;
            case 9: case 10: a = aHouse(); b = aHouse(); same("swap(" + a + "," + b + ")", deeds.swap(a, b), model.swap(a, b)); break;
            case 11: a = below(4) == 0 ? number(1, 30) : 1 + below(4); same("drift(" + a + ")", deeds.drift(a), model.drift(a)); break;
            case 12: case 13: a = below(3) == 0 ? number(1, 30) : 1 + below(5); same("undo(" + a + ")", deeds.undo(a), model.undo(a)); break;
            case 14: a = aGull(); b = aHouse(); c = below(3) == 0; same("hear(" + a + "," + b + "," + c + ")", deeds.hear(a, b, c), model.hear(a, b, c)); break;
            case 15: a = aHouse(); b = below(2) == 0 && a >= 0 && a < model.told(1) ? model.house(a, 1) : number(0, 9999); same("write(" + a + "," + b + ")", deeds.write(a, b), model.write(a, b)); break;
            case 16: if (below(3) == 0) same("tear()", deeds.tear(), model.tear()); break;
            case 17: a = number(0, 2147483646); same("seed(" + a + ")", deeds.seed(a), model.seed(a)); break;
            case 18: a = number(0, 1); same("keep(" + a + ")", deeds.keep(a), model.keep(a)); break;
            default: a = number(0, 1); same("goBack(" + a + ")", deeds.goBack(a), model.goBack(a)); break;
        }
    }

    private void attempt() {
        int a;
        int b;
        switch (below(20)) {
            case 0: case 1: case 2: a = aHouse(); b = number(0, 60); same("owes(" + a + "," + b + ")", deeds.owes(a, b), model.owes(a, b)); break;
            case 3: case 4: a = number(0, 1); same("firstOut(" + a + ")", deeds.firstOut(a), model.firstOut(a)); break;
            case 5: case 6: a = number(0, 60); same("outBy(" + a + ")", deeds.outBy(a), model.outBy(a)); break;
            case 7: case 8: a = number(0, 60); same("redeemedBy(" + a + ")", deeds.redeemedBy(a), model.redeemedBy(a)); break;
            case 9: a = number(0, below(2) == 0 ? 60 : 10); same("loan(" + a + ")", deeds.loan(a), model.loan(a)); break;
            case 10: case 11: a = number(0, 1); same("clear(" + a + ")", deeds.clear(a), model.clear(a)); break;
            case 12: case 13: a = number(0, 60); b = number(0, 1); same("bestSwap(" + a + "," + b + ")", deeds.bestSwap(a, b), model.bestSwap(a, b)); break;
            case 14: case 15: a = aGull(); same("home(" + a + ")", deeds.home(a), model.home(a)); break;
            case 16: case 17: a = aHouse(); same("mostBread(" + a + ")", deeds.mostBread(a), model.mostBread(a)); break;
            default: a = number(0, 60); b = number(0, 100); same("sure(" + a + "," + b + ")", deeds.sure(a, b), model.sure(a, b)); break;
        }
    }
}
