/** The promises of the document, one by one, by hand-made runs. */
public final class PromiseTests {
    private static final int NONE = -1000000, BAD = -1000001, STATE = -1000002, FULL = -1000003;
    private static final int FAULT_AT_0 = -1000100;
    /** Edition 0 plain; 1 split, then halved; 2 turned, block, plain; 3 without a stretch. */
    private static final String FOUR = "w12;ep0,12,1;es0,6,1;h6,6,20;er0,4,1;b4,3,5;p7,5,1;e";

    private static int checks = 0;
    private static int wrong = 0;
    private static String promise = "";

    private static void due(int got, int want) {
        checks++;
        if (got == want) return;
        wrong++;
        StackTraceElement from = new Throwable().getStackTrace()[1];
        System.out.println(promise + ", line " + from.getLineNumber() + ": answered " + got + ", due is " + want);
    }

    private static void feedAll(LineCites x, String text) {
        for (int i = 0; i < text.length(); i++) x.feed(text.charAt(i));
    }

    private static int tell(LineCites x, String text) {
        feedAll(x, text);
        return x.work();
    }

    private static LineCites told(String text) {
        LineCites x = new LineCites();
        if (tell(x, text) < 0) throw new AssertionError(text);
        return x;
    }

    /** The text is refused for a fault of this number at this place, and nothing else changes. */
    private static void dueFault(String text, int place, int number) {
        LineCites x = told("w3;ep1,1,7;");
        x.cite(0, 0, 0, 7, 7);
        x.see(7, 1);
        int got = tell(x, text);
        checks++;
        boolean isSame = x.count(0) == 3 && x.count(1) == 1 && x.count(2) == 1 && x.count(3) == 1
                && x.count(4) == 1 && x.count(5) == 2 && x.count(6) == 0;
        if (got == FAULT_AT_0 - place && x.fault() == number && isSame) return;
        wrong++;
        System.out.println(promise + ": \"" + text + "\" answered " + got + ", fault " + x.fault()
                + (isSame ? "" : ", and changed something") + "; due is place " + place + ", fault " + number);
    }

    private static void newObject() {
        LineCites x = new LineCites();
        for (int what = 0; what <= 6; what++) due(x.count(what), 0);
        due(x.fault(), 0);
        due(x.undo(), STATE);
        due(x.best(), STATE);
        due(x.image(0), STATE);
        due(x.restore(1), STATE);
        due(x.edition(0, 0), BAD);
        due(x.citation(0, 0), BAD);
    }

    private static void feed() {
        LineCites x = new LineCites();
        due(x.feed(-1), BAD);
        due(x.feed(256), BAD);
        due(x.feed(Integer.MIN_VALUE), BAD);
        due(x.feed(0), 1);
        due(x.feed(255), 2);
        for (int i = 3; i <= 200; i++) due(x.feed('w'), i);
        due(x.feed('w'), FULL);
        due(x.feed(256), BAD);
        due(x.count(6), 200);
        due(x.work(), FAULT_AT_0);
        due(x.feed('w'), 1);
    }

    private static void work() {
        LineCites x = new LineCites();
        due(tell(x, "w1;"), 0);
        due(x.count(0), 1);
        due(tell(x, "w200;e"), 1);
        due(x.count(0), 200);
        due(tell(x, "w008;eeeee"), 5);
        due(x.count(0), 8);
        due(x.count(6), 0);
        due(tell(x, "w6;ep0,1,1;s1,1,1;h2,1,1;r3,1,1;b4,1,1;p5,1,999;e"), 2);
        for (int s = 0; s < 5; s++) due(x.stretch(0, s, 0), s + 1);
        due(x.stretch(0, 5, 3), 999);
        due(x.edition(1, 0), 0);
        x.cite(3, 0, 0, 1, 9);
        x.see(1, 1);
        x.image(1);
        due(tell(x, FOUR), 4);
        for (int what = 3; what <= 6; what++) due(x.count(what), 0);
        due(x.undo(), STATE);
        due(x.restore(1), 1);
        due(x.count(0), 6);
    }

    private static void faults() {
        dueFault("", 0, 1);
        dueFault("e", 0, 1);
        dueFault(" w1;", 0, 1);
        dueFault("W1;", 0, 1);
        dueFault("w", 1, 1);
        dueFault("w;", 1, 1);
        dueFault("w0;", 1, 2);
        dueFault("w201", 1, 2);
        dueFault("w0200;", 1, 1);
        dueFault("w1", 2, 1);
        dueFault("w1,", 2, 1);
        dueFault("w1;p0,1,1;", 3, 1);
        dueFault("w1;w", 3, 1);
        dueFault("w1;1", 3, 1);
        dueFault("w1;e;", 4, 1);
        dueFault("w1;ee1", 5, 1);
        dueFault("w1;ea", 4, 1);
        dueFault("w1;ep", 5, 1);
        dueFault("w1;ep,", 5, 1);
        dueFault("w1;ep1,9", 5, 2);
        dueFault("w1;ep0", 6, 1);
        dueFault("w1;ep0;", 6, 1);
        dueFault("w1;ep0,", 7, 1);
        dueFault("w3;ep1,0,1;", 7, 2);
        dueFault("w3;ep1,3,1;", 7, 2);
        dueFault("w3;ep1,2;", 8, 1);
        dueFault("w3;ep1,2,0;", 9, 2);
        dueFault("w3;ep1,2,1000;", 9, 1);
        dueFault("w3;ep1,2,1", 10, 1);
        dueFault("w3;ep1,2,1,", 10, 1);
        dueFault("w3;ep1,2,1;\u00e9", 11, 1);
        dueFault("w3;ep0,3,998;", 9, 2);
        dueFault("w3;es0,3,995;", 9, 2);
        dueFault("w3;eh0,3,999;", 9, 2);
        dueFault("w3;er0,3,998;", 9, 2);
        dueFault("w9;ep2,3,1;p4,1,1;", 12, 2);
        dueFault("w9;ep2,3,1;p1,2,1;", 14, 2);
        dueFault("w9;ep2,3,1;p1,8,1;", 14, 2);
        dueFault("w9;eeeeee", 8, 3);
        dueFault("w9;ep0,1,1;p1,1,1;p2,1,1;p3,1,1;p4,1,1;p5,1,1;p6,1,1;", 46, 3);
        dueFault("w9;ep0,1,1;p1,1,1;p2,1,1;p3,1,1;p4,1,1;p5,1,1;a", 46, 1);
        dueFault("w9;ep0,1,1;p1,1,1;p2,1,1;p3,1,1;p4,1,1;p5,1,1;eeeeee", 50, 3);
        due(told("w3;ep0,3,997;es0,3,994;eh0,2,999;er0,3,997;eb0,3,999;").count(1), 5);
        due(told("w9;ep2,3,1;p5,4,1;p0,2,1;ep2,3,1;").count(2), 4);
    }

    private static void fault() {
        LineCites x = new LineCites();
        due(x.fault(), 0);
        tell(x, "w1;eeeeee");
        due(x.fault(), 3);
        tell(x, "w1;");
        due(x.fault(), 3);
        tell(x, "w0");
        due(x.fault(), 2);
        tell(x, "x");
        due(x.fault(), 1);
    }

    private static void undo() {
        LineCites x = told("w12;ep0,3,1;b5,2,9;e");
        due(x.undo(), STATE);
        x.add(1, 1, 0, 1, 5);
        x.drop(0, 0);
        x.alter(0, 0, 3, 8);
        x.cite(2, 0, 0, 8, 8);
        x.cite(2, 1, 1, 4, 0);
        x.strike(2);
        x.see(4, 4);
        x.see(0, 4);
        x.drop(0, 7);
        due(x.count(5), 7);
        due(x.undo(), 6);
        due(x.count(4), 0);
        due(x.undo(), 5);
        due(x.citation(2, 0), 1);
        due(x.citation(2, 1), 1);
        due(x.undo(), 4);
        due(x.citation(2, 0), 0);
        due(x.citation(2, 4), 2);
        due(x.undo(), 3);
        due(x.count(3), 0);
        due(x.stretch(0, 0, 3), 8);
        due(x.undo(), 2);
        due(x.stretch(0, 0, 3), 9);
        due(x.undo(), 1);
        due(x.stretch(0, 0, 0), 1);
        due(x.stretch(0, 1, 0), 5);
        due(x.undo(), 0);
        due(x.edition(1, 0), 0);
        due(x.undo(), STATE);
    }

    private static void undoForgets() {
        LineCites x = told("w12;ep0,3,1;");
        for (int i = 2; i <= 14; i++) due(x.alter(0, 0, 3, i), i - 1);
        due(x.alter(0, 0, 3, 14), 14);
        due(x.count(5), 10);
        due(x.undo(), 9);
        due(x.stretch(0, 0, 3), 14);
        for (int left = 8; left >= 0; left--) due(x.undo(), left);
        due(x.stretch(0, 0, 3), 5);
        due(x.undo(), STATE);
        x.see(1, 0);
        feedAll(x, "ab");
        due(x.undo(), 0);
        due(x.count(6), 2);
        x.see(1, 0);
        tell(x, "w0");
        due(x.count(5), 1);
        tell(x, "w1;");
        due(x.count(5), 0);
    }

    private static void add() {
        LineCites x = told("w12;ep2,3,10;e");
        due(x.add(0, 1, 0, 2, 1), 2);
        due(x.add(0, 2, 5, 1, 998), 3);
        due(x.stretch(0, 2, 0), 2);
        due(x.stretch(0, 2, 1), 5);
        due(x.stretch(0, 2, 2), 1);
        due(x.stretch(0, 2, 3), 998);
        due(x.add(2, 1, 6, 1, 1), BAD);
        due(x.add(-1, 1, 6, 1, 1), BAD);
        due(x.add(0, 0, 6, 1, 1), BAD);
        due(x.add(0, 6, 6, 1, 1), BAD);
        due(x.add(0, 1, -1, 1, 1), BAD);
        due(x.add(0, 1, 12, 1, 1), BAD);
        due(x.add(0, 1, 6, 0, 1), BAD);
        due(x.add(0, 1, 6, 7, 1), BAD);
        due(x.add(0, 1, 6, Integer.MAX_VALUE, 1), BAD);
        due(x.add(0, 1, Integer.MAX_VALUE, 1, 1), BAD);
        due(x.add(0, 1, 6, 1, 0), BAD);
        due(x.add(0, 1, 6, 1, 1000), BAD);
        due(x.add(0, 1, 6, 1, Integer.MAX_VALUE), BAD);
        due(x.add(0, 1, 6, 2, 999), BAD);
        due(x.add(0, 2, 6, 1, 999), BAD);
        due(x.add(0, 4, 6, 2, 999), BAD);
        due(x.add(0, 3, 6, 3, 999), BAD);
        due(x.add(0, 1, 4, 2, 1), BAD);
        due(x.add(0, 1, 1, 9, 1), BAD);
        due(x.count(5), 2);
        due(x.add(0, 3, 6, 2, 999), 4);
        due(x.add(0, 5, 8, 3, 999), 5);
        due(x.add(0, 1, 11, 1, 999), 6);
        due(x.add(0, 1, 11, 1, 1), BAD);
        due(x.count(5), 5);
        due(x.add(1, 1, 0, 12, 1), 1);
        LineCites y = told("w9;eb0,1,1;b1,1,1;b2,1,1;b3,1,1;b4,1,1;b5,1,1;");
        due(y.add(0, 1, 6, 1, 1), FULL);
        due(y.add(0, 1, 5, 1, 1), BAD);
        due(y.count(5), 0);
    }

    private static void drop() {
        LineCites x = told("w12;ep0,1,1;s1,1,2;h2,1,3;");
        due(x.drop(0, 3), BAD);
        due(x.drop(0, -1), BAD);
        due(x.drop(1, 0), BAD);
        due(x.count(5), 0);
        due(x.drop(0, 1), 2);
        due(x.stretch(0, 0, 0), 1);
        due(x.stretch(0, 1, 0), 3);
        due(x.stretch(0, 1, 1), 2);
        due(x.stretch(0, 1, 3), 3);
        due(x.stretch(0, 2, 0), BAD);
        due(x.number(0, 1, 0), NONE);
        due(x.drop(0, 1), 1);
        due(x.drop(0, 0), 0);
        due(x.drop(0, 0), BAD);
    }

    private static void alter() {
        LineCites x = told("w12;ep2,3,996;p8,2,1;");
        due(x.alter(0, 0, 0, 4), 1);
        due(x.alter(0, 0, 0, 2), BAD);
        due(x.alter(0, 0, 0, 0), BAD);
        due(x.alter(0, 0, 0, 6), BAD);
        due(x.stretch(0, 0, 0), 4);
        due(x.alter(0, 0, 1, 3), 2);
        due(x.alter(0, 0, 1, 5), 3);
        due(x.alter(0, 0, 1, 6), BAD);
        due(x.alter(0, 0, 1, 9), BAD);
        due(x.alter(0, 0, 1, -1), BAD);
        due(x.alter(0, 0, 1, 10), BAD);
        due(x.alter(0, 0, 2, 4), BAD);
        due(x.alter(0, 0, 2, 0), BAD);
        due(x.alter(0, 0, 2, 2), 3);
        due(x.alter(0, 1, 2, 5), BAD);
        due(x.alter(0, 1, 2, 4), 2);
        due(x.alter(0, 1, 3, 996), 1);
        due(x.alter(0, 1, 3, 997), BAD);
        due(x.alter(0, 1, 3, 0), BAD);
        due(x.alter(0, 1, 4, 1), BAD);
        due(x.alter(0, 1, -1, 1), BAD);
        due(x.alter(0, 2, 0, 1), BAD);
        due(x.alter(1, 0, 0, 1), BAD);
        due(x.stretch(0, 1, 3), 996);
        due(x.count(5), 6);
        due(x.alter(0, 1, 3, 996), 996);
        due(x.count(5), 7);
    }

    private static void cite() {
        LineCites x = told(FOUR);
        due(x.cite(0, 2, 0, 1, 2), 4);
        due(x.cite(7, 0, 2, 11, 0), 2);
        due(x.cite(7, 1, 1, 2, 0), 2);
        due(x.count(3), 2);
        due(x.cite(1, 0, 2, 999, 0), 0);
        due(x.cite(2, 0, 0, 999, 999), 0);
        due(x.cite(2, 0, 0, 1, 999), 12);
        due(x.count(5), 6);
        due(x.cite(-1, 0, 0, 1, 1), BAD);
        due(x.cite(8, 0, 0, 1, 1), BAD);
        due(x.cite(3, 4, 0, 1, 1), BAD);
        due(x.cite(3, 0, -1, 1, 1), BAD);
        due(x.cite(3, 0, 3, 1, 0), BAD);
        due(x.cite(3, 0, 0, 0, 1), BAD);
        due(x.cite(3, 0, 0, 5, 4), BAD);
        due(x.cite(3, 0, 0, 5, 1000), BAD);
        due(x.cite(3, 0, 1, 1000, 0), BAD);
        due(x.cite(3, 0, 1, 1, 1), BAD);
        due(x.cite(3, 0, 2, 1, 3), BAD);
        due(x.citation(3, 0), BAD);
        due(x.count(5), 6);
    }

    private static void strike() {
        LineCites x = told(FOUR);
        due(x.strike(0), BAD);
        x.cite(0, 0, 0, 1, 1);
        x.cite(5, 0, 0, 1, 1);
        due(x.strike(-1), BAD);
        due(x.strike(8), BAD);
        due(x.strike(1), BAD);
        due(x.strike(0), 1);
        due(x.strike(0), BAD);
        due(x.citation(5, 2), 1);
        due(x.strike(5), 0);
        due(x.count(5), 4);
    }

    private static void see() {
        LineCites x = new LineCites();
        due(x.see(1, 0), BAD);
        tell(x, FOUR);
        due(x.see(0, 0), BAD);
        due(x.see(1000, 0), BAD);
        due(x.see(1, -1), BAD);
        due(x.see(1, 12), BAD);
        for (int i = 1; i <= 6; i++) due(x.see(999, 11), i);
        for (int i = 7; i <= 12; i++) due(x.see(1, 0), i);
        due(x.see(1, 0), FULL);
        due(x.see(1, 12), BAD);
        due(x.count(4), 12);
        due(x.undo(), 9);
        due(x.see(1, 0), 12);
    }

    private static void stretch() {
        LineCites x = told("w30;ep0,5,10;s5,5,10;h10,5,10;r15,5,10;b20,5,10;");
        int[] greatest = {14, 19, 12, 14, 10};
        for (int s = 0; s < 5; s++) {
            due(x.stretch(0, s, 0), s + 1);
            due(x.stretch(0, s, 1), 5 * s);
            due(x.stretch(0, s, 2), 5);
            due(x.stretch(0, s, 3), 10);
            due(x.stretch(0, s, 4), greatest[s]);
        }
        due(x.stretch(0, 0, 5), BAD);
        due(x.stretch(0, 0, -1), BAD);
        due(x.stretch(0, 5, 0), BAD);
        due(x.stretch(0, -1, 0), BAD);
        due(x.stretch(1, 0, 0), BAD);
        due(x.stretch(-1, 0, 0), BAD);
    }

    private static void as() {
        LineCites x = told("w5;ep0,1,1;s1,1,1;h2,1,1;r3,1,1;b4,1,1;");
        for (int s = 0; s < 5; s++) {
            for (int kind = 0; kind <= 5; kind++) {
                boolean is = kind == 0 || kind == s + 1 || kind == 1 && (s == 1 || s == 2);
                due(x.as(0, s, kind), is ? s : NONE);
            }
        }
        due(x.as(0, 0, 6), BAD);
        due(x.as(0, 0, -1), BAD);
        due(x.as(0, 5, 0), BAD);
        due(x.as(1, 0, 0), BAD);
    }

    private static void edition() {
        LineCites x = told(FOUR + "p2,3,10;h6,3,10;");
        int[] wants = {2, 6, 3, 10, 12, 2, 2};
        for (int what = 0; what <= 6; what++) due(x.edition(3, what), wants[what]);
        int[] turned = {3, 12, 5, 1, 5, 5, 5};
        for (int what = 0; what <= 6; what++) due(x.edition(2, what), turned[what]);
        int[] halved = {2, 12, 15, 1, 22, 3, 0};
        for (int what = 0; what <= 6; what++) due(x.edition(1, what), halved[what]);
        due(x.edition(3, 7), BAD);
        due(x.edition(3, -1), BAD);
        due(x.edition(4, 0), BAD);
        LineCites y = told("w1;e");
        int[] bare = {0, 0, 0, NONE, NONE, 0, 0};
        for (int what = 0; what <= 6; what++) due(y.edition(0, what), bare[what]);
    }

    private static void number() {
        LineCites x = told("w30;ep0,5,10;s5,5,10;h10,5,10;r15,5,10;b20,5,10;");
        int[] third = {12, 14, 11, 12, 10};
        for (int s = 0; s < 5; s++) {
            due(x.number(0, 5 * s + 2, 0), third[s]);
            due(x.number(0, 5 * s + 2, 1), s == 1 ? 15 : third[s]);
        }
        due(x.number(0, 15, 0), 14);
        due(x.number(0, 25, 0), NONE);
        due(x.number(0, 25, 1), NONE);
        due(x.number(0, 30, 0), BAD);
        due(x.number(0, -1, 0), BAD);
        due(x.number(0, 0, 2), BAD);
        due(x.number(0, 0, -1), BAD);
        due(x.number(1, 0, 0), BAD);
    }

    private static void meant() {
        LineCites x = told(FOUR);
        int[] wants = {4, 4, 11};
        for (int what = 0; what <= 2; what++) due(x.meant(2, 5, what), wants[what]);
        int[] lines = {4, 5, 6, 11, NONE};
        for (int i = 0; i < 5; i++) due(x.meant(2, 5, 10 + i), lines[i]);
        due(x.meant(2, 5, Integer.MAX_VALUE), NONE);
        for (int what = 3; what <= 9; what++) due(x.meant(2, 5, what), BAD);
        due(x.meant(2, 5, -1), BAD);
        due(x.meant(2, 999, 0), 0);
        due(x.meant(2, 999, 1), NONE);
        due(x.meant(2, 999, 2), NONE);
        due(x.meant(2, 999, 10), NONE);
        due(x.meant(2, 0, 0), BAD);
        due(x.meant(2, 1000, 0), BAD);
        due(x.meant(4, 1, 0), BAD);
        due(x.meant(1, 11, 1), 5);
        due(x.meant(1, 12, 1), 5);
    }

    private static void left() {
        LineCites x = told("w12;ep2,3,1;b8,2,1;e");
        int[] firsts = {0, 5, 10, NONE};
        int[] sizes = {2, 3, 2, NONE};
        for (int i = 0; i < 4; i++) {
            due(x.left(0, i, 0), firsts[i]);
            due(x.left(0, i, 1), sizes[i]);
        }
        due(x.left(1, 0, 0), 0);
        due(x.left(1, 0, 1), 12);
        due(x.left(1, 1, 0), NONE);
        due(x.left(0, Integer.MAX_VALUE, 0), NONE);
        due(x.left(0, -1, 0), BAD);
        due(x.left(0, 0, 2), BAD);
        due(x.left(0, 0, -1), BAD);
        due(x.left(2, 0, 0), BAD);
        x.add(0, 1, 5, 3, 1);
        due(x.left(0, 1, 0), 10);
    }

    private static void in() {
        LineCites x = told(FOUR);
        due(x.in(2, 5, 0, 0), 4);
        due(x.in(2, 5, 0, 1), 5);
        due(x.in(2, 5, 0, 2), 12);
        due(x.in(2, 5, 1, 0), 6);
        due(x.in(1, 20, 2, 0), 2);
        due(x.in(1, 20, 2, 1), 1);
        due(x.in(1, 20, 2, 2), 5);
        due(x.in(1, 3, 1, 0), 2);
        due(x.in(2, 5, 2, 0), 1);
        due(x.in(0, 1, 3, 0), 0);
        due(x.in(0, 1, 3, 1), NONE);
        due(x.in(0, 1, 3, 2), NONE);
        due(x.in(0, 999, 1, 0), 0);
        due(x.in(0, 0, 1, 0), BAD);
        due(x.in(0, 1000, 1, 0), BAD);
        due(x.in(0, 1, 1, 3), BAD);
        due(x.in(0, 1, 1, -1), BAD);
        due(x.in(4, 1, 1, 0), BAD);
        due(x.in(0, 1, -1, 0), BAD);
    }

    private static void through() {
        LineCites x = told(FOUR);
        due(x.through(2, 1, 1, 0, 0), 3);
        due(x.through(2, 1, 1, 0, 1), 4);
        due(x.through(2, 1, 1, 0, 2), 8);
        due(x.through(0, 3, 2, 0, 0), 2);
        due(x.through(0, 3, 2, 0, 2), 9);
        due(x.through(0, 8, 2, 1, 0), 3);
        due(x.through(0, 8, 2, 1, 1), 7);
        due(x.through(0, 8, 2, 1, 2), 20);
        due(x.through(0, 3, 0, 0, 0), 1);
        due(x.through(0, 3, 3, 0, 0), 0);
        due(x.through(0, 3, 3, 0, 1), NONE);
        due(x.through(0, 3, 3, 0, 2), NONE);
        due(x.through(0, 0, 1, 1, 0), BAD);
        due(x.through(0, 1000, 1, 1, 0), BAD);
        due(x.through(0, 1, 4, 1, 0), BAD);
        due(x.through(4, 1, 1, 1, 0), BAD);
        due(x.through(0, 1, 1, 4, 0), BAD);
        due(x.through(0, 1, 1, 1, 3), BAD);
        due(x.through(0, 1, 1, 1, -1), BAD);
    }

    private static void dueShifts(LineCites x, int a, int b, int[] wants) {
        int many = wants.length / 3;
        due(x.shift(a, b, -1, 0), many);
        for (int i = 0; i < many; i++) {
            for (int what = 0; what <= 2; what++) due(x.shift(a, b, i, what), wants[3 * i + what]);
        }
        for (int what = 0; what <= 2; what++) due(x.shift(a, b, many, what), NONE);
    }

    private static void shift() {
        LineCites x = told(FOUR);
        dueShifts(x, 0, 1, new int[] {1, 2, 1, 3, 2, 3, 5, 2, 5, 7, 1, 13, 8, 2, 12, 10, 2, 11, 12, 1, 10});
        dueShifts(x, 0, 3, new int[] {});
        dueShifts(x, 0, 0, new int[] {1, 12, 0});
        dueShifts(x, 2, 0, new int[] {1, 5, 3});
        // The numbers below 0: a plain stretch far above the other; a gap ends a shift of like s.
        LineCites y = told("w9;ep0,4,100;p5,2,105;ep0,9,1;eb0,9,50;");
        dueShifts(y, 0, 1, new int[] {100, 4, -99, 105, 2, -99});
        dueShifts(y, 1, 0, new int[] {1, 4, 99, 6, 2, 99});
        dueShifts(y, 2, 1, new int[] {50, 1, -41});
        dueShifts(y, 1, 2, new int[] {1, 1, 49, 2, 1, 48, 3, 1, 47, 4, 1, 46, 5, 1, 45, 6, 1, 44,
            7, 1, 43, 8, 1, 42, 9, 1, 41});
        due(y.shift(0, 1, -1, 1), BAD);
        due(y.shift(0, 1, -1, 2), BAD);
        due(y.shift(0, 1, -2, 0), BAD);
        due(y.shift(0, 1, 0, 3), BAD);
        due(y.shift(0, 1, 0, -1), BAD);
        due(y.shift(3, 1, 0, 0), BAD);
        due(y.shift(0, 3, 0, 0), BAD);
        due(y.shift(0, 1, Integer.MAX_VALUE, 0), NONE);
    }

    private static void table() {
        LineCites x = told(FOUR + "p0,2,4;");
        int[][] wants = {{0, 1, 0, 6, 6, 6}, {1, 0, 0, 12, 3, 3}, {0, 3, 10, 2, 0, 2}, {2, 0, 0, 0, 5, 5},
            {3, 2, 0, 2, 0, 2}};
        for (int[] want : wants) {
            for (int what = 0; what <= 3; what++) due(x.table(want[0], want[1], what), want[2 + what]);
        }
        due(x.table(0, 1, 4), BAD);
        due(x.table(0, 1, -1), BAD);
        due(x.table(4, 1, 0), BAD);
        due(x.table(0, 4, 0), BAD);
        // Number 2, then 1, is one of two of line 0 and the one of line 1: it comes back as both.
        due(told("w2;es0,1,1;p1,1,2;ep0,2,1;").table(0, 1, 3), 0);
        due(told("w2;es0,1,1;p1,1,1;ep0,2,1;").table(0, 1, 3), 0);
        // One of the two numbers that line 0 has there is line 1's, too: the least, then the greatest.
        due(told("w2;ep0,2,1;es0,1,1;p1,1,1;").table(0, 1, 3), 0);
        due(told("w2;ep0,2,1;es0,1,1;p1,1,2;").table(0, 1, 3), 0);
        due(told("w2;ep0,2,1;es0,2,1;").table(0, 1, 3), 2);
        LineCites y = told("w2;ep0,1,1;p1,1,999;ep0,1,5;ep1,1,5;e");
        due(y.table(0, 1, 0), 1);
        due(y.table(0, 2, 0), 1);
        due(y.table(0, 3, 0), 2);
        due(y.table(3, 0, 0), 0);
        due(y.table(0, 2, 1), 1);
        due(y.table(0, 2, 3), 1);
    }

    private static void share() {
        LineCites x = told("w12;ep0,6,1;ep4,3,1;ep0,12,1;ee");
        due(x.share(0, 0), 1000);
        due(x.share(0, 1), 285);
        due(x.share(1, 0), 285);
        due(x.share(0, 2), 500);
        due(x.share(0, 3), 0);
        due(x.share(3, 4), NONE);
        due(x.share(3, 3), NONE);
        due(x.share(0, 5), BAD);
        due(x.share(-1, 0), BAD);
    }

    private static void citation() {
        LineCites x = told(FOUR);
        x.cite(0, 2, 0, 1, 2);
        x.cite(1, 0, 2, 11, 0);
        x.cite(2, 3, 1, 999, 0);
        int[][] wants = {{2, 0, 1, 2, 4, 2, 8, 0}, {0, 2, 11, 13, 2, 10, 11, 1}, {3, 1, 999, 1000, 0, NONE, NONE, 0}};
        for (int c = 0; c < 3; c++) {
            for (int what = 0; what <= 7; what++) due(x.citation(c, what), wants[c][what]);
        }
        due(x.citation(0, 8), BAD);
        due(x.citation(0, -1), BAD);
        due(x.citation(3, 0), BAD);
        due(x.citation(-1, 0), BAD);
        due(x.citation(8, 0), BAD);
        x.drop(2, 2);
        due(x.citation(0, 4), 2);
        due(x.citation(0, 7), 1);
    }

    private static void turned() {
        LineCites x = told(FOUR);
        x.cite(0, 2, 0, 1, 2);
        int[][] wants = {{3, 9, 0}, {5, 21, 0}, {1, 2, 1}, {NONE, NONE, 0}};
        for (int e = 0; e < 4; e++) {
            for (int what = 0; what <= 2; what++) due(x.turned(0, e, what), wants[e][what]);
        }
        x.cite(1, 1, 1, 2, 0);
        int[][] exact = {{1, 2, 1}, {1, 4, 1}, {3, 4, 0}};
        for (int e = 0; e < 3; e++) {
            for (int what = 0; what <= 2; what++) due(x.turned(1, e, what), exact[e][what]);
        }
        x.cite(2, 0, 0, 500, 600);
        due(x.turned(2, 0, 0), NONE);
        due(x.turned(2, 0, 2), 0);
        // A line of the citation without a number there: what is turned over has it not.
        x.add(3, 1, 0, 1, 8);
        due(x.turned(1, 3, 0), 8);
        due(x.turned(1, 3, 2), 0);
        due(x.turned(1, 3, 3), BAD);
        due(x.turned(1, 3, -1), BAD);
        due(x.turned(3, 0, 0), BAD);
        due(x.turned(0, 4, 0), BAD);
        due(x.turned(0, -1, 0), BAD);
    }

    private static void meet() {
        LineCites x = told(FOUR);
        x.cite(0, 2, 0, 1, 2);
        x.cite(1, 0, 0, 4, 8);
        int[] wants = {2, 2, 3};
        for (int what = 0; what <= 2; what++) due(x.meet(0, 1, what), wants[what]);
        due(x.meet(1, 0, 1), 3);
        due(x.meet(1, 0, 2), 2);
        due(x.meet(0, 0, 0), 4);
        due(x.meet(0, 0, 1), 0);
        due(x.meet(0, 0, 2), 0);
        due(x.meet(0, 1, 3), BAD);
        due(x.meet(0, 1, -1), BAD);
        due(x.meet(0, 2, 0), BAD);
        due(x.meet(2, 0, 0), BAD);
        due(x.meet(8, 0, 0), BAD);
    }

    private static void could() {
        LineCites x = told(FOUR);
        x.cite(0, 2, 0, 1, 2);
        due(x.could(0, 0), 3);
        due(x.could(0, 1), 1);
        due(x.could(0, 2), 4);
        due(x.could(0, 8), 4);
        due(x.could(0, 5), 0);
        x.cite(1, 3, 2, 1, 0);
        due(x.could(1, 1), 7);
        due(x.could(1, 2), 5);
        due(x.could(0, 12), BAD);
        due(x.could(0, -1), BAD);
        due(x.could(2, 0), BAD);
    }

    private static void score() {
        LineCites x = told(FOUR);
        due(x.score(0, 0), 0);
        due(x.score(0, 1), NONE);
        x.see(1, 0);
        x.see(2, 0);
        x.see(1, 3);
        due(x.score(0, 0), 1);
        due(x.score(0, 1), 333);
        due(x.score(1, 0), 2);
        due(x.score(1, 1), 666);
        due(x.score(2, 0), 1);
        due(x.score(3, 0), 0);
        due(x.score(3, 1), 0);
        x.see(1, 3);
        due(x.score(2, 0), 2);
        due(x.score(2, 1), 500);
        due(x.score(0, 2), BAD);
        due(x.score(0, -1), BAD);
        due(x.score(4, 0), BAD);
        due(x.score(-1, 0), BAD);
    }

    private static void best() {
        LineCites x = new LineCites();
        due(x.best(), STATE);
        tell(x, "w1;");
        due(x.best(), NONE);
        tell(x, FOUR);
        due(x.best(), 0);
        x.see(1, 3);
        due(x.best(), 2);
        x.see(2, 0);
        due(x.best(), 1);
        x.see(5, 4);
        due(x.best(), 2);
    }

    private static void image() {
        LineCites x = new LineCites();
        due(x.image(-1), BAD);
        due(x.image(2), BAD);
        due(x.image(0), STATE);
        due(x.image(1), STATE);
        tell(x, FOUR);
        due(x.image(1), 1);
        due(x.restore(0), STATE);
        due(x.see(1, 1), 1);
        due(x.count(5), 1);
        due(x.image(1), 1);
        due(x.count(5), 1);
        due(x.undo(), 0);
        due(x.restore(1), 1);
        due(x.count(4), 1);
    }

    private static void restore() {
        LineCites x = new LineCites();
        due(x.restore(-1), BAD);
        due(x.restore(2), BAD);
        due(x.restore(0), STATE);
        tell(x, FOUR);
        x.cite(4, 1, 1, 20, 0);
        x.see(3, 3);
        x.alter(0, 0, 0, 5);
        due(x.image(0), 1);
        tell(x, "w1;eb0,1,1;");
        due(x.image(1), 1);
        due(x.restore(0), 1);
        due(x.count(0), 12);
        due(x.count(1), 4);
        due(x.count(2), 6);
        due(x.count(3), 1);
        due(x.count(4), 1);
        due(x.count(5), 0);
        due(x.undo(), STATE);
        due(x.stretch(0, 0, 0), 5);
        due(x.citation(4, 4), 4);
        due(x.drop(0, 0), 0);
        due(x.restore(0), 1);
        due(x.edition(0, 0), 1);
        due(x.undo(), STATE);
        due(x.restore(1), 1);
        due(x.count(0), 1);
    }

    /** An image is of all: the document leaves out the acts alone. */
    private static void restoreTape() {
        LineCites x = told(FOUR);
        feedAll(x, "w0;");
        x.image(0);
        due(x.work(), FAULT_AT_0 - 1);
        due(x.fault(), 2);
        feedAll(x, "abcdefg");
        due(x.restore(0), 1);
        due(x.count(6), 3);
        due(x.fault(), 0);
        due(x.work(), FAULT_AT_0 - 1);
    }

    private static void count() {
        LineCites x = told(FOUR);
        x.cite(0, 0, 0, 1, 1);
        x.cite(3, 0, 0, 1, 1);
        x.see(1, 1);
        x.feed(0);
        int[] wants = {12, 4, 6, 2, 1, 3, 1};
        for (int what = 0; what <= 6; what++) due(x.count(what), wants[what]);
        due(x.count(7), BAD);
        due(x.count(-1), BAD);
    }

    /** A refused call leaves every count as it was. */
    private static void refusedChangesNothing() {
        LineCites x = told(FOUR);
        x.cite(0, 0, 0, 1, 1);
        x.add(0, 1, 0, 1, 1);
        x.drop(0, 9);
        x.alter(0, 0, 1, 5);
        x.cite(0, 9, 0, 1, 1);
        x.strike(1);
        x.see(1, 99);
        x.feed(300);
        x.restore(0);
        int[] wants = {12, 4, 6, 1, 0, 1, 0};
        for (int what = 0; what <= 6; what++) due(x.count(what), wants[what]);
    }

    /** Numbers up to the greatest there may be, 999, count everywhere. */
    private static void greatestNumber() {
        LineCites x = told("w4;eb0,1,999;b2,1,999;p3,1,998;ep0,4,996;");
        int[] wants = {3, 3, 2, 998, 999, 1, 1};
        for (int what = 0; what <= 6; what++) due(x.edition(0, what), wants[what]);
        due(x.meant(0, 999, 0), 2);
        due(x.in(1, 996, 0, 1), 999);
        due(x.in(0, 999, 1, 2), 998);
        due(x.through(1, 998, 0, 1, 0), 2);
        due(x.through(1, 999, 1, 1, 0), 1);
        dueShifts(x, 0, 1, new int[] {998, 1, 1, 999, 1, -1});
        dueShifts(x, 1, 0, new int[] {996, 1, 3, 998, 1, 1, 999, 1, -1});
        int[] table = {0, 1, 1, 2};
        for (int what = 0; what <= 3; what++) due(x.table(0, 1, what), table[what]);
        int[] alone = {1, 3, 0, 1};
        for (int what = 0; what <= 3; what++) due(x.table(1, 0, what), alone[what]);
        due(x.cite(0, 1, 0, 999, 999), 1);
        due(x.turned(0, 1, 1), 999);
        due(x.could(0, 2), 1);
    }

    /** A number may be but one of the two that a line has. */
    private static void oneOfTwo() {
        LineCites x = told("w3;es0,2,1;p2,1,4;ep0,3,1;");
        due(x.through(1, 3, 0, 1, 0), 2);
        due(x.through(1, 3, 0, 1, 1), 2);
        due(x.through(1, 1, 0, 1, 0), 1);
        due(x.table(1, 0, 3), 1);
        due(x.cite(0, 0, 0, 4, 9), 2);
        due(x.cite(0, 0, 0, 1, 3), 2);
    }

    private interface Promise {
        void check();
    }

    private static void check(String name, Promise p) {
        promise = name;
        p.check();
    }

    public static void main(String[] args) {
        check("1 a new object", PromiseTests::newObject);
        check("2 feed", PromiseTests::feed);
        check("3 work", PromiseTests::work);
        check("3 work, faults", PromiseTests::faults);
        check("4 fault", PromiseTests::fault);
        check("5 undo", PromiseTests::undo);
        check("5 undo, what is forgotten", PromiseTests::undoForgets);
        check("6 add", PromiseTests::add);
        check("7 drop", PromiseTests::drop);
        check("8 alter", PromiseTests::alter);
        check("9 cite", PromiseTests::cite);
        check("10 strike", PromiseTests::strike);
        check("11 see", PromiseTests::see);
        check("12 stretch", PromiseTests::stretch);
        check("13 as", PromiseTests::as);
        check("14 edition", PromiseTests::edition);
        check("15 number", PromiseTests::number);
        check("16 meant", PromiseTests::meant);
        check("17 left", PromiseTests::left);
        check("18 in", PromiseTests::in);
        check("19 through", PromiseTests::through);
        check("20 shift", PromiseTests::shift);
        check("21 table", PromiseTests::table);
        check("22 share", PromiseTests::share);
        check("23 citation", PromiseTests::citation);
        check("24 turned", PromiseTests::turned);
        check("25 meet", PromiseTests::meet);
        check("26 could", PromiseTests::could);
        check("27 score", PromiseTests::score);
        check("28 best", PromiseTests::best);
        check("29 image", PromiseTests::image);
        check("30 restore", PromiseTests::restore);
        check("30 restore, the tape", PromiseTests::restoreTape);
        check("31 count", PromiseTests::count);
        check("the greatest number", PromiseTests::greatestNumber);
        check("one of two numbers", PromiseTests::oneOfTwo);
        check("what is refused changes nothing", PromiseTests::refusedChangesNothing);
        System.out.println(checks + " answers looked at, " + wrong + " not as due");
        if (wrong != 0) System.exit(1);
    }
}
