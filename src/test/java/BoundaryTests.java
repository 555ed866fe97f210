import java.util.ArrayList;
import java.util.List;

/**
 * The boundary cases: each sentence of the document that names one is quoted, with a run of its own that fails
 * if the sentence is broken.
 */
public final class BoundaryTests {
    private static final int NONE = -1000000, BAD = -1000001, STATE = -1000002, FULL = -1000003;
    private static final int FAULT_AT_0 = -1000100;
    private static final int LEAST = Integer.MIN_VALUE, MOST = Integer.MAX_VALUE;
    /** Edition 0 plain; 1 split, then halved; 2 turned, block, plain; 3 without a stretch. */
    private static final String FOUR = "w12;ep0,12,1;es0,6,1;h6,6,20;er0,4,1;b4,3,5;p7,5,1;e";
    /** Nine lines, an edition with all the stretches it can have: line 6 on is free. */
    private static final String SIX = "w9;eb0,1,1;b1,1,1;b2,1,1;b3,1,1;b4,1,1;b5,1,1;";

    private static int sentences = 0;
    private static int checks = 0;
    private static int wrong = 0;
    private static String sentence = "";

    private static void due(int got, int want) {
        checks++;
        if (got == want) return;
        wrong++;
        StringBuilder lines = new StringBuilder();
        for (StackTraceElement from : new Throwable().getStackTrace()) {
            if (!from.getMethodName().startsWith("due")) lines.append(' ').append(from.getLineNumber());
        }
        System.out.println("\"" + sentence + "\", lines" + lines + ": answered " + got + ", due is " + want);
    }

    private static void feedAll(LineCites x, String text) {
        for (int i = 0; i < text.length(); i++) x.feed(text.charAt(i));
    }

    private static int tell(LineCites x, String text) {
        feedAll(x, text);
        return x.work();
    }

    private static LineCites told(String text) {
        LineCites x = new LineCites();
        if (tell(x, text) < 0) throw new AssertionError(text);
        return x;
    }

    private static void dueFault(String text, int place, int number) {
        LineCites x = new LineCites();
        due(tell(x, text), FAULT_AT_0 - place);
        due(x.fault(), number);
        due(x.count(0), 0);
        due(x.count(6), 0);
    }

    private static void dueRead(String text, int editions, int stretches) {
        LineCites x = new LineCites();
        due(tell(x, text), editions);
        due(x.fault(), 0);
        due(x.count(2), stretches);
        due(x.count(6), 0);
    }

    private static void dueParts(LineCites x, int edition, int stretch, int... wants) {
        for (int what = 0; what < wants.length; what++) due(x.stretch(edition, stretch, what), wants[what]);
    }

    // ======== what is asked of several objects alike

    private interface Ask {
        int of(LineCites x);
    }

    /** What stands, as answers: counts first, then fault(), then the rest. */
    private static List<Integer> looks(LineCites x) {
        List<Integer> all = new ArrayList<>();
        for (int what = 0; what <= 6; what++) all.add(x.count(what));
        all.add(x.fault());
        all.add(x.best());
        for (int e = 0; e < x.count(1); e++) {
            for (int s = 0; s < x.edition(e, 0); s++) {
                for (int what = 0; what <= 3; what++) all.add(x.stretch(e, s, what));
            }
            all.add(x.score(e, 0));
        }
        for (int c = 0; c <= 7; c++) {
            for (int what = 0; what <= 4; what++) all.add(x.citation(c, what));
        }
        return all;
    }

    private static void dueAlike(LineCites got, LineCites want) {
        List<Integer> gots = looks(got);
        List<Integer> wants = looks(want);
        due(gots.size(), wants.size());
        for (int i = 0; i < gots.size() && i < wants.size(); i++) due(gots.get(i), wants.get(i));
    }

    /** Acts of all kinds stand, both images are kept, there is a fault, and bytes are on the tape. */
    private static LineCites busy() {
        LineCites x = told("w12;ep0,5,1;s5,2,7;eb0,1,1;b1,1,2;b2,1,3;b3,1,4;b4,1,5;b5,1,6;e");
        x.image(0);
        x.cite(0, 0, 0, 1, 4);
        x.cite(7, 1, 2, 4, 0);
        x.cite(3, 1, 1, 4, 0);
        x.strike(3);
        x.see(3, 2);
        x.alter(0, 0, 3, 2);
        x.image(1);
        x.add(0, 4, 8, 3, 90);
        x.drop(0, 1);
        tell(x, "w1;eeeeee");
        feedAll(x, "w4;e");
        return x;
    }

    private static LineCites full() {
        LineCites x = busy();
        for (int i = 0; i < 11; i++) x.see(2, i);
        for (int i = 4; i < 200; i++) x.feed('e');
        return x;
    }

    private static LineCites made(boolean isFull) {
        return isFull ? full() : busy();
    }

    /** The call is refused, and then all is as on an object where it was not made: what stands, acts, images. */
    private static void dueRefused(boolean isFull, int refusal, Ask call) {
        LineCites x = made(isFull);
        LineCites y = made(isFull);
        due(call.of(x), refusal);
        dueAlike(x, y);
        x = made(isFull);
        y = made(isFull);
        call.of(x);
        for (int i = 0; i < 10; i++) due(x.undo(), y.undo());
        dueAlike(x, y);
        due(x.undo(), STATE);
        for (int k = 0; k <= 1; k++) {
            x = made(isFull);
            y = made(isFull);
            call.of(x);
            due(x.restore(k), 1);
            y.restore(k);
            dueAlike(x, y);
        }
        x = made(isFull);
        y = made(isFull);
        call.of(x);
        due(x.work(), y.work());
        dueAlike(x, y);
    }

    // ======== Terms

    private static void the512thCall() {
        LineCites x = new LineCites();
        due(tell(x, "w9;ep0,9,1;"), 1);
        for (int call = 13; call <= 511; call++) due(x.number(0, call % 9, 1), call % 9 + 1);
        due(x.add(0, 1, 0, 1, 1), BAD);
        x = new LineCites();
        due(tell(x, "w9;ep0,9,1;"), 1);
        for (int call = 13; call <= 511; call++) due(x.alter(0, 0, 3, call), call == 13 ? 1 : call - 1);
        due(x.undo(), 9);
    }

    private static void constants() {
        due(LineCites.NONE, NONE);
        due(LineCites.BAD, BAD);
        due(LineCites.STATE, STATE);
        due(LineCites.FULL, FULL);
    }

    private static void cutTowards0() {
        LineCites x = told("w7;eh0,7,4;");
        int[] wants = {4, 4, 5, 5, 6, 6, 7};
        for (int line = 0; line < 7; line++) due(x.number(0, line, 0), wants[line]);
        due(x.stretch(0, 0, 4), 7);
        x.alter(0, 0, 2, 6);
        due(x.stretch(0, 0, 4), 6);
    }

    private static void thousandths() {
        LineCites x = told("w200;ep0,200,1;ep0,199,1;ep0,2,1;ep0,3,1;eb199,1,1;");
        due(x.share(0, 1), 995);
        due(x.share(1, 0), 995);
        due(x.share(2, 3), 666);
        due(x.share(0, 4), 5);
        due(x.share(1, 4), 0);
        due(x.share(0, 0), 1000);
        due(x.share(1, 2), 10);
    }

    private static void setsAreBits() {
        LineCites x = told("w2;eb0,1,1;eb0,1,1;eb0,1,1;eb0,1,1;eb0,1,1;b1,1,2;");
        x.cite(0, 3, 0, 1, 1);
        due(x.could(0, 0), 31);
        due(x.could(0, 1), 0);
        x.cite(0, 0, 0, 2, 2);
        due(x.could(0, 1), 16);
        due(x.could(0, 0), 0);
    }

    private static void badAheadOfState() {
        LineCites x = new LineCites();
        int[] wrongs = {-1, 2, LEAST, MOST};
        for (int k : wrongs) {
            due(x.image(k), BAD);
            due(x.restore(k), BAD);
        }
        for (int k = 0; k <= 1; k++) {
            due(x.image(k), STATE);
            due(x.restore(k), STATE);
        }
    }

    private static void badAheadOfFull() {
        LineCites x = told(SIX);
        due(x.add(0, 1, 6, 1, 1), FULL);
        due(x.add(1, 1, 6, 1, 1), BAD);
        due(x.add(0, 0, 6, 1, 1), BAD);
        due(x.add(0, 6, 6, 1, 1), BAD);
        due(x.add(0, 1, 9, 1, 1), BAD);
        due(x.add(0, 1, 5, 1, 1), BAD);
        due(x.add(0, 1, 6, 0, 1), BAD);
        due(x.add(0, 1, 6, 4, 1), BAD);
        due(x.add(0, 1, 6, 1, 0), BAD);
        due(x.add(0, 1, 6, 2, 999), BAD);
        for (int i = 1; i <= 12; i++) due(x.see(1, 1), i);
        due(x.see(1, 1), FULL);
        due(x.see(0, 1), BAD);
        due(x.see(1000, 1), BAD);
        due(x.see(1, -1), BAD);
        due(x.see(1, 9), BAD);
        for (int i = 1; i <= 200; i++) due(x.feed('e'), i);
        due(x.feed('e'), FULL);
        due(x.feed(-1), BAD);
        due(x.feed(256), BAD);
    }

    private static void refusedChangesNothing() {
        dueRefused(false, BAD, x -> x.feed(256));
        dueRefused(true, FULL, x -> x.feed('e'));
        dueRefused(false, BAD, x -> x.add(0, 1, 4, 2, 1));
        dueRefused(false, BAD, x -> x.add(3, 1, 0, 1, 1));
        dueRefused(false, FULL, x -> x.add(1, 1, 6, 1, 1));
        dueRefused(false, BAD, x -> x.drop(0, 2));
        dueRefused(false, BAD, x -> x.drop(2, 0));
        dueRefused(false, BAD, x -> x.alter(0, 0, 1, 8));
        dueRefused(false, BAD, x -> x.alter(0, 0, 2, 9));
        dueRefused(false, BAD, x -> x.alter(0, 0, 3, 996));
        dueRefused(false, BAD, x -> x.alter(0, 0, 0, 0));
        dueRefused(false, BAD, x -> x.alter(0, 0, 4, 1));
        dueRefused(false, BAD, x -> x.cite(0, 3, 0, 1, 1));
        dueRefused(false, BAD, x -> x.cite(0, 0, 0, 2, 1));
        dueRefused(false, BAD, x -> x.cite(0, 0, 3, 1, 0));
        dueRefused(false, BAD, x -> x.cite(8, 0, 0, 1, 1));
        dueRefused(false, BAD, x -> x.strike(3));
        dueRefused(false, BAD, x -> x.see(0, 0));
        dueRefused(false, BAD, x -> x.see(1, 12));
        dueRefused(true, FULL, x -> x.see(1, 0));
        dueRefused(false, BAD, x -> x.image(2));
        dueRefused(false, BAD, x -> x.restore(2));
        dueRefused(false, BAD, x -> x.count(7));
    }

    /** Two refusals that an object has only while something is not there yet. */
    private static void refusedWhereNothingIs() {
        LineCites x = told("w12;ep0,5,1;");
        feedAll(x, "w4");
        x.see(4, 4);
        due(x.restore(0), STATE);
        due(x.count(4), 1);
        due(x.count(5), 1);
        due(x.count(6), 2);
        LineCites y = new LineCites();
        feedAll(y, "w4");
        due(y.undo(), STATE);
        due(y.image(0), STATE);
        due(y.restore(0), STATE);
        due(y.best(), STATE);
        due(y.count(6), 2);
        due(y.feed(';'), 3);
        due(y.work(), 0);
        due(y.restore(0), STATE);
    }

    // ======== 1 THE TAPE

    private static void tapeOf200() {
        LineCites x = new LineCites();
        for (int i = 1; i <= 200; i++) due(x.feed('w'), i);
        due(x.feed('w'), FULL);
        due(x.feed(0), FULL);
        due(x.feed(255), FULL);
        due(x.count(6), 200);
        due(x.work(), FAULT_AT_0 - 1);
        due(x.feed('w'), 1);
    }

    /** 200 bytes that all count: the last byte is read, and one that is missing is missed. */
    private static void tapeReadToItsEnd() {
        String five = "w200;" + "eb000,010,100;b010,010,100;b020,010,100;".repeat(4) + "eb000,010,100;b010,09,100;b1";
        String all = five + "9,01,3;";
        due(all.length(), 200);
        dueRead(all, 5, 15);
        dueFault(all.substring(0, 199), 199, 1);
        dueFault(all.substring(0, 199) + ",", 199, 1);
        dueFault(five + "9,01,03", 200, 1);
        LineCites x = new LineCites();
        feedAll(x, all);
        due(x.feed('e'), FULL);
        due(x.work(), 5);
        due(x.stretch(4, 2, 3), 3);
    }

    /** Of all bytes, which ones behind a text make it whole, and behind which ones but the end is missing. */
    private static void dueNext(String text, String makeWhole, int editions, String goOn) {
        for (int b = 0; b <= 255; b++) {
            LineCites x = new LineCites();
            feedAll(x, text);
            due(x.feed(b), text.length() + 1);
            boolean isWhole = makeWhole.indexOf(b) >= 0;
            int place = goOn.indexOf(b) >= 0 ? text.length() + 1 : text.length();
            due(x.work(), isWhole ? editions : FAULT_AT_0 - place);
            due(x.fault(), isWhole ? 0 : 1);
        }
    }

    private static void tokens() {
        dueNext("", "", 0, "w");
        dueNext("w9", ";", 0, "0123456789");
        dueNext("w9;", "e", 1, "");
        dueNext("w9;e", "e", 2, "pshrb");
        dueNext("w99;ep0", "", 0, ",0123456789");
        dueNext("w99;ep0,1", "", 0, ",0123456789");
        dueNext("w9;ep0,1,1", ";", 1, "0123456789");
        dueNext("w9;ep0,1,1;", "e", 2, "pshrb");
    }

    private static void letterByItself() {
        dueFault("ww9;", 1, 1);
        dueFault("w9;epp0,1,1;", 5, 1);
        dueFault("w9;ea", 4, 1);
        dueFault("w9;ez", 4, 1);
        dueFault("w9;e`", 4, 1);
        dueFault("w9;e{", 4, 1);
        dueFault("w9;eP0,1,1;", 4, 1);
        dueFault("w9;E", 3, 1);
        dueRead("w9;ee", 2, 0);
    }

    private static void threeFigures() {
        dueRead("w9;", 0, 0);
        dueRead("w09;", 0, 0);
        dueRead("w009;", 0, 0);
        dueFault("w0009;", 1, 1);
        dueFault("w1000;", 1, 1);
        dueRead("w9;ep000,001,001;", 1, 1);
        dueFault("w9;ep0000,1,1;", 5, 1);
        dueFault("w9;ep0,0001,1;", 7, 1);
        dueFault("w9;ep0,1,0001;", 9, 1);
        dueFault("w9/;", 2, 1);
        dueFault("w9:;", 2, 1);
        dueFault("w/;", 1, 1);
        dueFault("w:;", 1, 1);
    }

    private static void noOtherSign() {
        for (char c : " .:-+_\n\t\u0000\u007f\u0080\u00ac\u00ec\u00ff".toCharArray()) {
            dueFault(c + "w9;", 0, 1);
            dueFault("w" + c + "9;", 1, 1);
            dueFault("w9" + c + ";", 2, 1);
            dueFault("w9;" + c, 3, 1);
            dueFault("w9;ep0,1,1" + c, 10, 1);
        }
    }

    private static void linesFrom1To200() {
        dueFault("w0;", 1, 2);
        dueFault("w000;", 1, 2);
        dueRead("w1;", 0, 0);
        dueRead("w200;", 0, 0);
        dueFault("w201;", 1, 2);
        dueFault("w999;", 1, 2);
        due(told("w1;").count(0), 1);
        due(told("w200;").count(0), 200);
    }

    private static void lastLine() {
        LineCites x = told("w200;ep199,1,5;");
        due(x.number(0, 199, 0), 5);
        due(x.number(0, 198, 0), NONE);
        due(x.number(0, 200, 0), BAD);
        due(x.number(0, -1, 0), BAD);
        dueFault("w200;ep200,1,5;", 7, 2);
        LineCites y = told("w1;ep0,1,5;");
        due(y.number(0, 0, 0), 5);
        due(y.number(0, 1, 0), BAD);
        dueFault("w1;ep1,1,5;", 5, 2);
    }

    private static void many() {
        dueFault("w9;ep0,0,1;", 7, 2);
        dueRead("w9;ep0,1,1;", 1, 1);
        dueRead("w9;ep0,9,1;", 1, 1);
        dueFault("w9;ep0,10,1;", 7, 2);
        dueRead("w9;ep8,1,1;", 1, 1);
        dueFault("w9;ep8,2,1;", 7, 2);
        dueFault("w9;ep4,6,1;", 7, 2);
        dueRead("w9;ep4,5,1;", 1, 1);
        dueRead("w200;ep0,200,1;", 1, 1);
        dueFault("w200;ep0,201,1;", 9, 2);
        dueFault("w200;ep1,200,1;", 9, 2);
        dueFault("w200;ep199,999,1;", 11, 2);
    }

    private static void noLineTwice() {
        String ahead = "w9;ep3,3,1;";
        dueRead(ahead + "p2,1,1;", 1, 2);
        dueRead(ahead + "p6,1,1;", 1, 2);
        dueRead(ahead + "p0,3,1;p6,3,1;", 1, 3);
        dueFault(ahead + "p3,1,1;", 12, 2);
        dueFault(ahead + "p4,1,1;", 12, 2);
        dueFault(ahead + "p5,1,1;", 12, 2);
        dueFault(ahead + "p5,4,1;", 12, 2);
        dueFault(ahead + "p3,3,1;", 12, 2);
        dueFault(ahead + "p2,2,1;", 14, 2);
        dueFault(ahead + "p0,4,1;", 14, 2);
        dueFault(ahead + "p0,9,1;", 14, 2);
        dueFault(ahead + "p6,3,1;p0,7,1;", 21, 2);
        dueFault(ahead + "p6,3,1;p8,1,1;", 19, 2);
        dueRead(ahead + "ep3,3,1;", 2, 2);
        dueFault(ahead + "ep3,3,1;p5,1,1;", 20, 2);
    }

    private static void first() {
        dueFault("w9;ep0,1,0;", 9, 2);
        dueFault("w9;eb0,1,000;", 9, 2);
        dueRead("w9;ep0,1,1;", 1, 1);
        dueRead("w9;ep0,1,999;", 1, 1);
    }

    /** Of four lines, the greatest FIRST that each kind bears, and one more. */
    private static void nothingBeyond999() {
        String kinds = "pshrb";
        int[] most = {996, 992, 998, 996, 999};
        int[] mostOf1 = {999, 998, 999, 999, 999};
        for (int k = 0; k < 5; k++) {
            dueRead("w4;e" + kinds.charAt(k) + "0,4," + most[k] + ";", 1, 1);
            dueRead("w4;e" + kinds.charAt(k) + "0,1," + mostOf1[k] + ";", 1, 1);
            LineCites x = told("w4;e" + kinds.charAt(k) + "0,4," + most[k] + ";");
            due(x.stretch(0, 0, 4), 999);
            due(x.edition(0, 4), 999);
            dueFault("w4;e" + kinds.charAt(k) + "0,4," + (most[k] + 1) + ";", 9, k == 4 ? 1 : 2);
            dueFault("w4;e" + kinds.charAt(k) + "0,1," + (mostOf1[k] + 1) + ";", 9, k == 1 ? 2 : 1);
        }
        dueRead("w5;eh0,3,998;h3,2,999;", 1, 2);
        dueFault("w5;eh0,5,998;", 9, 2);
        dueFault("w200;es0,200,601;", 13, 2);
        dueRead("w200;es0,200,600;", 1, 1);
    }

    private static void editions() {
        dueRead("w9;", 0, 0);
        dueRead("w9;e", 1, 0);
        dueRead("w9;eeeee", 5, 0);
        dueFault("w9;eeeeee", 8, 3);
        dueFault("w9;eeeeep0,1,1;e", 15, 3);
        dueFault("w9;eeeeee9", 8, 3);
    }

    private static void stretches() {
        String six = SIX.substring(4);
        dueRead(SIX, 1, 6);
        dueRead(SIX + "e", 2, 6);
        dueRead("w9;e" + six + "e" + six + "e" + six + "e" + six, 4, 24);
        for (char kind : "pshrb".toCharArray()) dueFault(SIX + kind + "6,1,1;", SIX.length(), 3);
        dueFault(SIX + "p", SIX.length(), 3);
        dueFault("w9;ee" + six + "p6,1,1;", SIX.length() + 1, 3);
        dueFault(SIX + "a", SIX.length(), 1);
    }

    private static void workReadAnew() {
        LineCites x = busy();
        x.work();
        due(x.count(0), 4);
        due(x.count(1), 1);
        due(x.count(2), 0);
        due(x.count(3), 0);
        for (int c = 0; c <= 7; c++) due(x.citation(c, 0), BAD);
        due(x.count(4), 0);
        due(x.score(0, 1), NONE);
        due(x.count(5), 0);
        due(x.undo(), STATE);
        due(x.restore(0), 1);
        due(x.count(0), 12);
        due(x.restore(1), 1);
        due(x.count(3), 2);
        due(x.count(4), 1);
        // Stretches of the work before do not show through.
        LineCites y = told(SIX + "ep0,9,1;");
        due(tell(y, "w9;ee"), 2);
        due(y.count(2), 0);
        due(y.edition(0, 1), 0);
        due(y.edition(1, 1), 0);
        due(y.add(0, 1, 0, 9, 1), 1);
        due(tell(y, "w9;"), 0);
        due(y.edition(0, 0), BAD);
    }

    // ======== FAULTS

    private static void firstTokenThatHasOne() {
        dueFault("w0;eeeeeeX", 1, 2);
        dueFault("w9;eeeeeep99,0,0", 8, 3);
        dueFault("w9;ep9,0,0", 5, 2);
        dueFault("w9;ep8,0,0", 7, 2);
        dueFault("w9;ep8,1,0", 9, 2);
        dueFault("w9;ep8,1,1", 10, 1);
        dueFault("w9;ep8,2X", 7, 2);
        dueFault("w9;ep8X2", 6, 1);
        dueFault("w0", 1, 2);
        dueFault("w201", 1, 2);
        dueFault("w9;ep9", 5, 2);
        dueFault("w9;ep0,0", 7, 2);
        dueFault("w9;ep0,1,0", 9, 2);
    }

    private static void ofOneTokenTheLeast() {
        dueFault("w0000;", 1, 1);
        dueFault("w9;ep9999,1,1;", 5, 1);
        dueFault("w9;ep0,0000,1;", 7, 1);
        dueFault("w9;ep0,1,9999;", 9, 1);
        dueFault("w9;eeeeep0,1e", 12, 1);
        dueFault("w9;eeeeepe", 9, 1);
        dueFault(SIX.substring(0, SIX.length() - 1) + "p", SIX.length() - 1, 1);
        dueFault("w9;eeeeew", 8, 1);
        dueFault("w0p", 1, 2);
    }

    private static void cannotStandThere() {
        dueFault("9", 0, 1);
        dueFault(";", 0, 1);
        dueFault(",", 0, 1);
        dueFault("e", 0, 1);
        dueFault("w,", 1, 1);
        dueFault("we", 1, 1);
        dueFault("w9,", 2, 1);
        dueFault("w9e", 2, 1);
        dueFault("w9;;", 3, 1);
        dueFault("w9;,", 3, 1);
        dueFault("w9;9", 3, 1);
        dueFault("w9;w", 3, 1);
        for (char kind : "pshrb".toCharArray()) dueFault("w9;" + kind + "0,1,1;", 3, 1);
        dueFault("w9;e;", 4, 1);
        dueFault("w9;e,", 4, 1);
        dueFault("w9;e9", 4, 1);
        dueFault("w9;ew", 4, 1);
        dueFault("w9;ep;", 5, 1);
        dueFault("w9;ep,", 5, 1);
        dueFault("w9;epe", 5, 1);
        dueFault("w9;ep0;", 6, 1);
        dueFault("w9;ep0e", 6, 1);
        dueFault("w9;ep0,,", 7, 1);
        dueFault("w9;ep0,;", 7, 1);
        dueFault("w9;ep0,1;", 8, 1);
        dueFault("w9;ep0,1,;", 9, 1);
        dueFault("w9;ep0,1,,", 9, 1);
        dueFault("w9;ep0,1,1,", 10, 1);
        dueFault("w9;ep0,1,1e", 10, 1);
        dueFault("w9;ep0,1,1;;", 11, 1);
        dueFault("w9;ep0,1,1;9", 11, 1);
        dueFault("w9;ep0,1,1;w", 11, 1);
    }

    private static void fourFigures() {
        dueFault("1234", 0, 1);
        dueFault("w1234", 1, 1);
        dueFault("w9;e1234", 4, 1);
        dueFault("w9;e123", 4, 1);
        dueFault("w9;ep1234567890,", 5, 1);
        dueFault("w" + "0".repeat(199), 1, 1);
        dueFault("w9;ep0,1,1;1234", 11, 1);
    }

    private static void theEnd() {
        String text = "w9;ep0,1,1;";
        boolean[] isWhole = {false, false, false, true, true, false, false, false, false, false, false, true};
        for (int size = 0; size <= text.length(); size++) {
            if (isWhole[size]) dueRead(text.substring(0, size), size > 3 ? 1 : 0, size > 4 ? 1 : 0);
            else dueFault(text.substring(0, size), size, 1);
        }
        dueFault("w123", 4, 1);
    }

    private static void lineInAnother() {
        dueFault("w99;ep10,10,1;p19,1,1;", 15, 2);
        dueFault("w99;ep10,10,1;p10,90,1;", 15, 2);
        dueFault("w99;ep10,10,1;p9,2,1;", 17, 2);
        dueFault("w99;ep10,10,1;p9,99,1;", 17, 2);
        dueRead("w99;ep10,10,1;p9,1,1;p20,1,1;", 1, 3);
    }

    // ======== 2 STRETCHES

    private static void dueNumbers(LineCites x, int edition, int[][] wants) {
        for (int line = 0; line < wants.length; line++) {
            due(x.number(edition, line, 0), wants[line][0]);
            due(x.number(edition, line, 1), wants[line][wants[line].length - 1]);
        }
    }

    private static void stretchNumbers() {
        dueNumbers(told("w4;ep1,3,7;"), 0, new int[][] {{NONE}, {7}, {8}, {9}});
        dueNumbers(told("w4;es1,3,7;"), 0, new int[][] {{NONE}, {7, 8}, {9, 10}, {11, 12}});
        dueNumbers(told("w4;eh1,3,7;"), 0, new int[][] {{NONE}, {7}, {7}, {8}});
        dueNumbers(told("w4;er1,3,7;"), 0, new int[][] {{NONE}, {9}, {8}, {7}});
        dueNumbers(told("w4;eb1,3,7;"), 0, new int[][] {{NONE}, {7}, {7}, {7}});
        // Of one line all kinds but SPLIT have FIRST alone.
        dueNumbers(told("w5;ep0,1,7;s1,1,7;h2,1,7;r3,1,7;b4,1,7;"), 0, new int[][] {{7}, {7, 8}, {7}, {7}, {7}});
    }

    private static void inNoStretch() {
        LineCites x = told("w4;ep1,2,7;e");
        due(x.number(0, 0, 0), NONE);
        due(x.number(0, 3, 1), NONE);
        due(x.number(0, 1, 0), 7);
        due(x.number(1, 1, 0), NONE);
        due(x.edition(0, 1), 2);
    }

    private static void sameNumbers() {
        LineCites x = told("w9;ep0,3,1;p3,3,1;b6,2,3;");
        due(x.meant(0, 3, 0), 4);
        due(x.meant(0, 3, 1), 2);
        due(x.meant(0, 3, 2), 7);
        due(x.edition(0, 2), 3);
        due(x.add(0, 1, 8, 1, 3), 4);
        due(x.meant(0, 3, 0), 5);
    }

    private static void inItself() {
        LineCites x = told("w4;es0,2,1;b2,2,9;");
        due(x.in(0, 1, 0, 0), 2);
        due(x.in(0, 2, 0, 1), 1);
        due(x.in(0, 9, 0, 0), 1);
        due(x.in(0, 5, 0, 0), 0);
        due(x.through(0, 1, 0, 0, 0), 2);
        due(x.table(0, 0, 1), 1);
        due(x.table(0, 0, 2), 4);
        due(x.table(0, 0, 3), 1);
        due(x.share(0, 0), 1000);
        due(x.shift(0, 0, -1, 0), 2);
    }

    private static void dueShift(LineCites x, int a, int b, int i, int first, int many, int s) {
        due(x.shift(a, b, i, 0), first);
        due(x.shift(a, b, i, 1), many);
        due(x.shift(a, b, i, 2), s);
    }

    private static void shiftEnds() {
        // A number that is not there, and one that has no number there, end a shift, though s goes on.
        LineCites x = told("w6;ep0,2,1;p2,3,4;p5,1,7;ep0,2,1;p2,1,4;p4,2,6;eb0,6,3;eb0,6,5;");
        // What was asked of other editions ahead does not count.
        dueShift(x, 2, 2, 0, 3, 1, 0);
        dueShift(x, 3, 3, 0, 5, 1, 0);
        due(x.shift(0, 1, -1, 0), 3);
        dueShift(x, 0, 1, 0, 1, 2, 0);
        dueShift(x, 0, 1, 1, 4, 1, 0);
        dueShift(x, 0, 1, 2, 6, 2, 0);
        for (int what = 0; what <= 2; what++) due(x.shift(0, 1, 3, what), NONE);
        due(x.shift(0, 1, MOST, 0), NONE);
    }

    private static void shiftBelow0() {
        LineCites x = told("w3;ep0,3,997;ep0,3,1;");
        due(x.shift(0, 1, -1, 0), 1);
        dueShift(x, 0, 1, 0, 997, 3, -996);
        dueShift(x, 1, 0, 0, 1, 3, 996);
        LineCites y = told("w1;ep0,1,1;ep0,1,999;");
        dueShift(y, 0, 1, 0, 1, 1, 998);
        dueShift(y, 1, 0, 0, 999, 1, -998);
    }

    /** Doubt joins numbers to a shift: from the least to the greatest, both within. */
    private static void shiftFromLeastToGreatest() {
        // 5: 11 to 14, 6: 15 to 18, 7: 19: s from 6 to 9, from 9 to 12, then 12.
        LineCites x = told("w5;eh0,5,5;es0,4,11;p4,1,19;");
        due(x.shift(0, 1, -1, 0), 2);
        dueShift(x, 0, 1, 0, 5, 2, 9);
        dueShift(x, 0, 1, 1, 7, 1, 12);
        // 6: from 16 on, one more than the greatest that 5 leaves.
        LineCites y = told("w5;eh0,5,5;es0,2,11;s2,2,16;p4,1,19;");
        due(y.shift(0, 1, -1, 0), 2);
        dueShift(y, 0, 1, 0, 5, 1, 6);
        dueShift(y, 0, 1, 1, 6, 2, 12);
        // The least and the greatest one stand amid the lines.
        LineCites z = told("w4;eb0,4,1;eb0,4,999;eb0,1,70;b1,1,50;b2,1,90;b3,1,80;");
        dueShift(z, 0, 2, 0, 1, 1, 49);
        dueShift(z, 1, 2, 0, 999, 1, -909);
    }

    private static void shiftNearest0() {
        LineCites x = told("w4;eb0,2,5;b2,2,6;ep0,1,1;p1,1,9;p2,1,2;p3,1,8;");
        due(x.shift(0, 1, -1, 0), 1);
        dueShift(x, 0, 1, 0, 5, 2, 0);
        LineCites above = told("w2;eb0,2,5;ep0,1,7;p1,1,9;");
        dueShift(above, 0, 1, 0, 5, 1, 2);
        LineCites below = told("w2;eb0,2,5;ep0,1,1;p1,1,3;");
        dueShift(below, 0, 1, 0, 5, 1, -2);
        LineCites near = told("w2;eb0,2,5;ep0,1,6;p1,1,9;ep0,1,1;p1,1,4;");
        dueShift(near, 0, 1, 0, 5, 1, 1);
        dueShift(near, 0, 2, 0, 5, 1, -1);
        LineCites just = told("w2;eb0,2,5;ep0,1,5;p1,1,9;ep0,1,1;p1,1,5;");
        dueShift(just, 0, 1, 0, 5, 1, 0);
        dueShift(just, 0, 2, 0, 5, 1, 0);
    }

    private static void citationNumbers() {
        LineCites x = told("w6;ep0,6,994;");
        due(x.cite(0, 0, 0, 994, 994), 1);
        due(x.cite(1, 0, 1, 994, 0), 2);
        due(x.cite(2, 0, 2, 994, 0), 3);
        due(x.cite(3, 0, 0, 994, 999), 6);
        due(x.cite(4, 0, 1, 999, 0), 1);
        due(x.cite(5, 0, 2, 999, 0), 1);
        due(x.cite(6, 0, 2, 998, 0), 2);
        due(x.cite(7, 0, 0, 999, 999), 1);
        due(x.cite(7, 0, 0, 1, 993), 0);
        due(x.cite(7, 0, 0, 1, 994), 1);
        due(x.cite(7, 0, 1, 993, 0), 1);
        due(x.cite(7, 0, 1, 992, 0), 0);
        due(x.cite(7, 0, 2, 992, 0), 1);
        due(x.cite(7, 0, 2, 991, 0), 0);
    }

    private static void exact() {
        LineCites x = told("w6;ep0,6,1;ep1,3,1;b4,1,2;ep2,1,5;ep0,2,1;b2,1,1;");
        x.cite(0, 0, 0, 2, 4);
        due(x.turned(0, 1, 0), 1);
        due(x.turned(0, 1, 1), 3);
        due(x.turned(0, 1, 2), 0);
        due(x.turned(0, 2, 0), 5);
        due(x.turned(0, 2, 2), 0);
        due(x.turned(0, 3, 0), 1);
        due(x.turned(0, 3, 1), 2);
        due(x.turned(0, 3, 2), 0);
        due(x.turned(0, 0, 2), 1);
        x.drop(1, 1);
        due(x.turned(0, 1, 2), 1);
        x.cite(1, 0, 0, 1, 3);
        due(x.turned(1, 3, 2), 1);
        // One line more, be it the first or the last one, or one less is too much.
        LineCites y = told("w3;ep0,3,1;eb0,2,5;eb1,2,5;eb0,3,5;");
        y.cite(0, 0, 0, 2, 2);
        y.cite(1, 0, 0, 1, 3);
        y.cite(2, 3, 0, 5, 5);
        int[][] wants = {{1, 0, 0, 0}, {1, 0, 0, 1}, {1, 0, 0, 1}};
        for (int c = 0; c < 3; c++) {
            for (int e = 0; e < 4; e++) due(y.turned(c, e, 2), wants[c][e]);
        }
        due(y.turned(0, 0, 0), 2);
        due(y.turned(2, 0, 0), 1);
    }

    private static void seen12() {
        LineCites x = told("w9;ep0,9,1;");
        for (int i = 1; i <= 12; i++) due(x.see(i % 9 + 1, i % 9), i);
        due(x.see(1, 0), FULL);
        due(x.count(4), 12);
        due(x.score(0, 0), 12);
        due(x.score(0, 1), 1000);
        due(x.undo(), 9);
        due(x.see(999, 8), 12);
        due(x.score(0, 0), 11);
        due(x.score(0, 1), 916);
        due(x.see(999, 8), FULL);
    }

    private static void acts10() {
        LineCites x = told("w9;ep0,9,1;");
        for (int v = 2; v <= 11; v++) due(x.alter(0, 0, 3, v), v - 1);
        due(x.count(5), 10);
        for (int left = 9; left >= 0; left--) {
            due(x.undo(), left);
            due(x.stretch(0, 0, 3), left + 1);
        }
        due(x.undo(), STATE);
        due(x.stretch(0, 0, 3), 1);
    }

    private static void oldestForgotten() {
        LineCites x = told("w9;ep0,9,1;");
        for (int v = 2; v <= 12; v++) due(x.alter(0, 0, 3, v), v - 1);
        due(x.count(5), 10);
        for (int left = 9; left >= 0; left--) due(x.undo(), left);
        due(x.stretch(0, 0, 3), 2);
        due(x.undo(), STATE);
        due(x.stretch(0, 0, 3), 2);
    }

    /** What is kept goes round and round: acts behind undone ones, far more than ten of them. */
    private static void actsGoRound() {
        LineCites x = told("w9;ep0,9,1;");
        int first = 1;
        for (int round = 0; round < 9; round++) {
            for (int i = 0; i < 7; i++) {
                due(x.alter(0, 0, 3, first + 1), first);
                first++;
            }
            for (int i = 0; i < 4; i++) {
                int left = x.undo();
                first--;
                due(x.stretch(0, 0, 3), first);
                due(x.count(5), left);
            }
        }
        due(x.count(5), 6);
        for (int left = 5; left >= 0; left--) {
            due(x.undo(), left);
            first--;
            due(x.stretch(0, 0, 3), first);
        }
        due(x.undo(), STATE);
    }

    private static void latestFirst() {
        LineCites x = told("w9;ep0,3,1;");
        due(x.add(0, 1, 3, 1, 50), 2);
        due(x.see(50, 3), 1);
        due(x.cite(0, 0, 0, 50, 50), 1);
        due(x.undo(), 2);
        due(x.count(3), 0);
        due(x.count(4), 1);
        due(x.undo(), 1);
        due(x.count(4), 0);
        due(x.count(2), 2);
        due(x.undo(), 0);
        due(x.count(2), 1);
    }

    private static void actsOfNoChange() {
        LineCites x = told("w9;ep0,3,1;");
        due(x.alter(0, 0, 0, 1), 1);
        due(x.alter(0, 0, 1, 0), 0);
        due(x.alter(0, 0, 2, 3), 3);
        due(x.alter(0, 0, 3, 1), 1);
        due(x.count(5), 4);
        due(x.cite(0, 0, 0, 1, 1), 1);
        due(x.cite(0, 0, 0, 1, 1), 1);
        due(x.count(5), 6);
        due(x.see(1, 0), 1);
        due(x.see(1, 0), 2);
        due(x.count(5), 8);
        for (int left = 7; left >= 6; left--) due(x.undo(), left);
        due(x.count(4), 0);
        due(x.undo(), 5);
        due(x.count(3), 1);
        due(x.undo(), 4);
        due(x.count(3), 0);
        for (int left = 3; left >= 0; left--) due(x.undo(), left);
        dueParts(x, 0, 0, 1, 0, 3, 1);
    }

    /** One act of each sort, undone: all is as ahead of it. */
    private static void dueUndone(Ask act) {
        LineCites x = busy();
        LineCites y = busy();
        int many = x.count(5);
        due(act.of(x) >= 0 ? 1 : 0, 1);
        due(x.count(5), many + 1);
        due(x.undo(), many);
        dueAlike(x, y);
        for (int i = 0; i < 10; i++) due(x.undo(), y.undo());
        dueAlike(x, y);
    }

    private static void eachActUndone() {
        dueUndone(x -> x.add(0, 1, 5, 1, 9));
        dueUndone(x -> x.add(2, 5, 0, 12, 9));
        dueUndone(x -> x.drop(0, 0));
        dueUndone(x -> x.drop(0, 1));
        dueUndone(x -> x.drop(1, 2));
        dueUndone(x -> x.alter(0, 0, 0, 4));
        dueUndone(x -> x.alter(0, 0, 1, 1));
        dueUndone(x -> x.alter(0, 0, 2, 1));
        dueUndone(x -> x.alter(0, 0, 3, 995));
        dueUndone(x -> x.alter(0, 0, 3, x.stretch(0, 0, 3)));
        dueUndone(x -> x.cite(1, 0, 2, 999, 0));
        dueUndone(x -> x.cite(0, 1, 0, 2, 2));
        dueUndone(x -> x.strike(0));
        dueUndone(x -> x.strike(7));
        dueUndone(x -> x.see(999, 0));
    }

    private static void noActs() {
        LineCites x = busy();
        int many = x.count(5);
        x.feed('e');
        x.fault();
        looks(x);
        x.image(0);
        due(x.count(5), many);
        tell(x, "!");
        due(x.count(5), many);
        due(x.undo(), many - 1);
        // What was undone is no act, and cannot be undone or done again.
        due(x.undo(), many - 2);
    }

    // ======== the promises

    private static void noWork() {
        LineCites x = new LineCites();
        for (int what = 0; what <= 6; what++) due(x.count(what), 0);
        due(x.fault(), 0);
        due(x.undo(), STATE);
        due(x.add(0, 1, 0, 1, 1), BAD);
        due(x.drop(0, 0), BAD);
        due(x.alter(0, 0, 0, 1), BAD);
        due(x.cite(0, 0, 0, 1, 1), BAD);
        due(x.strike(0), BAD);
        due(x.see(1, 0), BAD);
        due(x.stretch(0, 0, 0), BAD);
        due(x.as(0, 0, 0), BAD);
        due(x.edition(0, 0), BAD);
        due(x.number(0, 0, 0), BAD);
        due(x.meant(0, 1, 0), BAD);
        due(x.left(0, 0, 0), BAD);
        due(x.in(0, 1, 0, 0), BAD);
        due(x.through(0, 1, 0, 0, 0), BAD);
        due(x.shift(0, 0, -1, 0), BAD);
        due(x.table(0, 0, 0), BAD);
        due(x.share(0, 0), BAD);
        due(x.citation(0, 0), BAD);
        due(x.turned(0, 0, 0), BAD);
        due(x.meet(0, 0, 0), BAD);
        due(x.could(0, 0), BAD);
        due(x.score(0, 0), BAD);
        due(x.best(), STATE);
        due(x.image(0), STATE);
        due(x.restore(0), STATE);
        due(x.count(5), 0);
        due(x.work(), FAULT_AT_0);
        due(x.best(), STATE);
    }

    private static void noEdition() {
        LineCites x = told("w5;");
        due(x.count(0), 5);
        due(x.count(1), 0);
        due(x.add(0, 1, 0, 1, 1), BAD);
        due(x.cite(0, 0, 0, 1, 1), BAD);
        due(x.edition(0, 0), BAD);
        due(x.number(0, 0, 0), BAD);
        due(x.left(0, 0, 0), BAD);
        due(x.score(0, 0), BAD);
        due(x.best(), NONE);
        due(x.see(1, 4), 1);
        due(x.best(), NONE);
        due(x.image(0), 1);
        due(x.restore(0), 1);
        due(x.count(4), 1);
    }

    private static void feed() {
        LineCites x = new LineCites();
        int[] wrongs = {-1, 256, LEAST, MOST, 256 + 'w', -256 + 'w'};
        for (int letter : wrongs) due(x.feed(letter), BAD);
        due(x.count(6), 0);
        due(x.feed(0), 1);
        due(x.feed(255), 2);
        due(x.feed(128), 3);
        due(x.feed(127), 4);
        due(x.count(6), 4);
    }

    private static void work() {
        LineCites x = told(FOUR);
        due(x.count(6), 0);
        due(x.work(), FAULT_AT_0);
        due(x.fault(), 1);
        due(x.count(1), 4);
        LineCites y = busy();
        int many = y.count(5);
        List<Integer> before = looks(y);
        due(tell(y, "p"), FAULT_AT_0 - 5);
        before.set(6, 0);
        before.set(7, 1);
        List<Integer> behind = looks(y);
        for (int i = 0; i < before.size(); i++) due(behind.get(i), before.get(i));
        due(y.count(5), many);
        due(y.undo(), many - 1);
        due(y.restore(1), 1);
    }

    private static void fault() {
        LineCites x = new LineCites();
        due(x.fault(), 0);
        due(tell(x, "w9;"), 0);
        due(x.fault(), 0);
        due(tell(x, "w9;eeeeee"), FAULT_AT_0 - 8);
        due(x.fault(), 3);
        due(x.fault(), 3);
        due(tell(x, "w9;e"), 1);
        due(x.fault(), 3);
        due(x.feed(256), BAD);
        due(x.fault(), 3);
        due(tell(x, "w999"), FAULT_AT_0 - 1);
        due(x.fault(), 2);
        due(x.work(), FAULT_AT_0);
        due(x.fault(), 1);
        due(x.see(1, 0), 1);
        due(x.undo(), 0);
        due(x.fault(), 1);
    }

    private static void undo() {
        LineCites x = told("w9;ep0,3,1;");
        due(x.undo(), STATE);
        due(x.see(1, 0), 1);
        due(x.undo(), 0);
        due(x.undo(), STATE);
        due(x.count(5), 0);
        due(x.see(1, 0), 1);
        due(x.undo(), 0);
    }

    private static void add() {
        LineCites x = told("w9;ep3,3,1;");
        int[] noEdition = {-1, 1, 5, LEAST, MOST};
        for (int e : noEdition) due(x.add(e, 1, 0, 1, 1), BAD);
        int[] noKind = {-1, 0, 6, 'p', LEAST, MOST};
        for (int kind : noKind) due(x.add(0, kind, 0, 1, 1), BAD);
        int[] noFrom = {-1, 9, 200, LEAST, MOST, 3, 4, 5};
        for (int from : noFrom) due(x.add(0, 1, from, 1, 1), BAD);
        int[] noMany = {0, -1, 4, 7, 10, LEAST, MOST, MOST - 1};
        for (int many : noMany) due(x.add(0, 1, 0, many, 1), BAD);
        int[] noFirst = {0, -1, 1000, LEAST, MOST, 998, 999};
        for (int first : noFirst) due(x.add(0, 1, 0, 3, first), BAD);
        due(x.add(0, 1, 6, 4, 1), BAD);
        due(x.add(0, 1, 8, MOST - 7, 1), BAD);
        due(x.add(0, 5, 0, 1, 1000), BAD);
        due(x.add(0, 2, 0, 1, 999), BAD);
        due(x.count(5), 0);
        due(x.add(0, 1, 0, 3, 997), 2);
        dueParts(x, 0, 1, 1, 0, 3, 997, 999);
        due(x.add(0, 2, 6, 2, 996), 3);
        dueParts(x, 0, 2, 2, 6, 2, 996, 999);
        due(x.add(0, 5, 8, 1, 999), 4);
        dueParts(x, 0, 3, 5, 8, 1, 999, 999);
        dueParts(x, 0, 0, 1, 3, 3, 1, 3);
        due(x.count(5), 3);
    }

    private static void addFull() {
        LineCites x = told("w9;eb0,1,1;b1,1,1;b2,1,1;b3,1,1;b4,1,1;ep0,9,1;");
        due(x.add(0, 1, 5, 1, 1), 6);
        due(x.add(0, 1, 6, 1, 1), FULL);
        due(x.edition(0, 0), 6);
        due(x.drop(0, 0), 5);
        due(x.add(0, 1, 6, 1, 1), 6);
        due(x.add(0, 1, 7, 1, 1), FULL);
        due(x.undo(), 2);
        due(x.add(0, 1, 7, 1, 1), 6);
    }

    private static void drop() {
        LineCites x = told(SIX + "e");
        int[] noStretch = {-1, 6, LEAST, MOST};
        for (int s : noStretch) due(x.drop(0, s), BAD);
        int[] noEdition = {-1, 2, 5, LEAST, MOST};
        for (int e : noEdition) due(x.drop(e, 0), BAD);
        due(x.drop(1, 0), BAD);
        due(x.count(5), 0);
        due(x.drop(0, 5), 5);
        due(x.drop(0, 5), BAD);
        due(x.drop(0, 0), 4);
        for (int s = 0; s < 4; s++) due(x.stretch(0, s, 1), s + 1);
        due(x.stretch(0, 4, 1), BAD);
        due(x.drop(0, 1), 3);
        int[] left = {1, 3, 4};
        for (int s = 0; s < 3; s++) due(x.stretch(0, s, 1), left[s]);
        for (int many = 2; many >= 0; many--) due(x.drop(0, 0), many);
        due(x.drop(0, 0), BAD);
        due(x.edition(0, 1), 0);
        // The lines of what is gone are free.
        due(x.add(0, 1, 0, 9, 1), 1);
        LineCites y = told("w9;ep0,1,1;s1,2,2;h3,1,3;r4,1,4;b5,1,5;");
        due(y.drop(0, 1), 4);
        dueParts(y, 0, 0, 1, 0, 1, 1);
        dueParts(y, 0, 1, 3, 3, 1, 3);
        dueParts(y, 0, 2, 4, 4, 1, 4);
        dueParts(y, 0, 3, 5, 5, 1, 5);
        // Behind the sixth of one edition comes the first of the next: it stays as it is.
        LineCites z = told(SIX + "es3,2,7;h5,1,8;");
        due(z.drop(0, 5), 5);
        due(z.add(0, 1, 8, 1, 3), 6);
        due(z.drop(0, 0), 5);
        dueParts(z, 0, 4, 1, 8, 1, 3);
        dueParts(z, 1, 0, 2, 3, 2, 7);
        dueParts(z, 1, 1, 3, 5, 1, 8);
    }

    private static void alter() {
        LineCites x = told("w9;ep3,3,1;p7,2,1;");
        int[] noWhich = {-1, 4, LEAST, MOST};
        for (int which : noWhich) due(x.alter(0, 0, which, 1), BAD);
        int[] noStretch = {-1, 2, LEAST, MOST};
        for (int s : noStretch) due(x.alter(0, s, 0, 1), BAD);
        int[] noEdition = {-1, 1, LEAST, MOST};
        for (int e : noEdition) due(x.alter(e, 0, 0, 1), BAD);
        int[] noKind = {-1, 0, 6, LEAST, MOST};
        for (int kind : noKind) due(x.alter(0, 0, 0, kind), BAD);
        int[] noFrom = {-1, 5, 6, 7, 8, 9, LEAST, MOST};
        for (int from : noFrom) due(x.alter(0, 0, 1, from), BAD);
        int[] noMany = {0, -1, 5, 6, 7, LEAST, MOST};
        for (int many : noMany) due(x.alter(0, 0, 2, many), BAD);
        int[] noFirst = {0, -1, 998, 999, 1000, LEAST, MOST};
        for (int first : noFirst) due(x.alter(0, 0, 3, first), BAD);
        due(x.alter(0, 1, 2, 3), BAD);
        due(x.alter(0, 1, 1, 5), BAD);
        due(x.alter(0, 1, 1, 8), BAD);
        due(x.count(5), 0);
        dueParts(x, 0, 0, 1, 3, 3, 1);
        due(x.alter(0, 0, 1, 4), 3);
        due(x.alter(0, 0, 1, 0), 4);
        due(x.alter(0, 0, 2, 7), 3);
        due(x.alter(0, 0, 3, 993), 1);
        due(x.alter(0, 0, 0, 2), BAD);
        due(x.alter(0, 0, 0, 5), 1);
        due(x.alter(0, 0, 3, 999), 993);
        due(x.alter(0, 0, 0, 3), BAD);
        due(x.alter(0, 0, 0, 4), BAD);
        due(x.alter(0, 0, 0, 1), BAD);
        due(x.alter(0, 0, 2, 1), 7);
        due(x.alter(0, 0, 0, 2), BAD);
        due(x.alter(0, 0, 0, 4), 5);
        due(x.alter(0, 0, 2, 2), BAD);
        due(x.alter(0, 1, 1, 1), 7);
        dueParts(x, 0, 0, 4, 0, 1, 999);
        dueParts(x, 0, 1, 1, 1, 2, 1);
        due(x.count(5), 9);
    }

    private static void cite() {
        LineCites x = told("w9;ep0,9,1;");
        int[] noCitation = {-1, 8, LEAST, MOST};
        for (int c : noCitation) due(x.cite(c, 0, 0, 1, 1), BAD);
        int[] noEdition = {-1, 1, LEAST, MOST};
        for (int e : noEdition) due(x.cite(0, e, 0, 1, 1), BAD);
        int[] noKind = {-1, 3, LEAST, MOST};
        for (int kind : noKind) {
            due(x.cite(0, 0, kind, 1, 1), BAD);
            due(x.cite(0, 0, kind, 1, 0), BAD);
        }
        int[] noNumber = {0, -1, 1000, LEAST, MOST};
        for (int n : noNumber) {
            for (int kind = 0; kind <= 2; kind++) due(x.cite(0, 0, kind, n, kind == 0 ? n : 0), BAD);
            due(x.cite(0, 0, 0, n, 999), BAD);
            due(x.cite(0, 0, 0, 1, n), BAD);
        }
        due(x.cite(0, 0, 0, 5, 4), BAD);
        int[] noTo = {1, 2, 3, -1, 999, LEAST, MOST};
        for (int to : noTo) {
            due(x.cite(0, 0, 1, 1, to), BAD);
            due(x.cite(0, 0, 2, 1, to), BAD);
        }
        due(x.count(3), 0);
        due(x.count(5), 0);
        due(x.cite(0, 0, 0, 1, 1), 1);
        due(x.cite(7, 0, 0, 1, 999), 9);
        due(x.cite(7, 0, 0, 9, 999), 1);
        due(x.cite(7, 0, 0, 10, 999), 0);
        due(x.cite(7, 0, 1, 9, 0), 1);
        due(x.cite(7, 0, 2, 7, 0), 3);
        due(x.count(3), 2);
        for (int c = 0; c <= 7; c++) due(x.cite(c, 0, 1, 1, 0), 2);
        due(x.count(3), 8);
    }

    private static void strike() {
        LineCites x = told("w9;ep0,9,1;");
        int[] none = {-1, 0, 7, 8, LEAST, MOST};
        for (int c : none) due(x.strike(c), BAD);
        due(x.count(5), 0);
        x.cite(0, 0, 0, 1, 1);
        x.cite(7, 0, 0, 1, 1);
        due(x.strike(7), 1);
        due(x.strike(7), BAD);
        due(x.citation(7, 0), BAD);
        due(x.turned(7, 0, 0), BAD);
        due(x.meet(0, 7, 0), BAD);
        due(x.could(7, 0), BAD);
        due(x.strike(0), 0);
        due(x.strike(0), BAD);
        due(x.cite(0, 0, 0, 1, 1), 1);
        due(x.count(3), 1);
    }

    private static void see() {
        LineCites x = new LineCites();
        due(x.see(1, 0), BAD);
        tell(x, "w9;");
        int[] noNumber = {0, -1, 1000, LEAST, MOST};
        for (int n : noNumber) due(x.see(n, 0), BAD);
        int[] noLine = {-1, 9, 200, LEAST, MOST};
        for (int line : noLine) due(x.see(1, line), BAD);
        due(x.count(4), 0);
        due(x.see(1, 0), 1);
        due(x.see(999, 8), 2);
        due(x.see(999, 8), 3);
    }

    private static void stretch() {
        LineCites x = told(SIX);
        int[] noEdition = {-1, 1, LEAST, MOST};
        for (int e : noEdition) due(x.stretch(e, 0, 0), BAD);
        int[] noStretch = {-1, 6, LEAST, MOST};
        for (int s : noStretch) due(x.stretch(0, s, 0), BAD);
        int[] noWhat = {-1, 5, LEAST, MOST};
        for (int what : noWhat) due(x.stretch(0, 0, what), BAD);
        dueParts(x, 0, 5, 5, 5, 1, 1, 1);
        LineCites y = told("w9;ep0,1,999;s1,1,998;h2,2,999;h4,3,998;r7,2,998;");
        for (int s = 0; s < 5; s++) due(y.stretch(0, s, 4), 999);
    }

    private static void as() {
        LineCites x = told("w5;ep0,1,1;s1,1,1;h2,1,1;r3,1,1;b4,1,1;");
        int[] noKind = {-1, 6, LEAST, MOST};
        for (int kind : noKind) due(x.as(0, 0, kind), BAD);
        int[] noStretch = {-1, 5, LEAST, MOST};
        for (int s : noStretch) due(x.as(0, s, 0), BAD);
        int[] noEdition = {-1, 1, LEAST, MOST};
        for (int e : noEdition) due(x.as(e, 0, 0), BAD);
        String[] are = {"xx....", "xxx...", "xx.x..", "x...x.", "x....x"};
        for (int s = 0; s < 5; s++) {
            for (int kind = 0; kind <= 5; kind++) due(x.as(0, s, kind), are[s].charAt(kind) == 'x' ? s : NONE);
        }
    }

    private static void dueEdition(LineCites x, int edition, int... wants) {
        for (int what = 0; what < wants.length; what++) due(x.edition(edition, what), wants[what]);
    }

    private static void edition() {
        LineCites x = told("w9;eep0,9,1;eb0,9,999;eb0,1,1;b2,1,1;eh0,4,7;b4,1,8;b6,1,9;");
        int[] noEdition = {-1, 5, LEAST, MOST};
        for (int e : noEdition) due(x.edition(e, 0), BAD);
        int[] noWhat = {-1, 7, LEAST, MOST};
        for (int what : noWhat) due(x.edition(0, what), BAD);
        dueEdition(x, 0, 0, 0, 0, NONE, NONE, 0, 0);
        dueEdition(x, 1, 1, 9, 9, 1, 9, 0, 0);
        dueEdition(x, 2, 1, 9, 1, 999, 999, 1, 0);
        dueEdition(x, 3, 2, 2, 1, 1, 1, 1, 1);
        dueEdition(x, 4, 3, 6, 3, 7, 9, 2, 0);
        LineCites y = told("w9;es0,2,1;es0,2,1;p2,1,1;p3,1,4;eb0,1,999;b8,1,999;es0,1,998;b1,1,999;");
        dueEdition(y, 0, 1, 2, 4, 1, 4, 0, 0);
        dueEdition(y, 1, 3, 4, 4, 1, 4, 2, 2);
        dueEdition(y, 2, 2, 2, 1, 999, 999, 1, 1);
        dueEdition(y, 3, 2, 2, 2, 998, 999, 1, 0);
    }

    private static void number() {
        LineCites x = told("w9;es0,1,998;e");
        int[] noEdition = {-1, 2, LEAST, MOST};
        for (int e : noEdition) due(x.number(e, 0, 0), BAD);
        int[] noLine = {-1, 9, LEAST, MOST};
        for (int line : noLine) due(x.number(0, line, 0), BAD);
        int[] noWhat = {-1, 2, LEAST, MOST};
        for (int what : noWhat) due(x.number(0, 0, what), BAD);
        due(x.number(0, 0, 0), 998);
        due(x.number(0, 0, 1), 999);
        due(x.number(0, 8, 0), NONE);
        due(x.number(0, 8, 1), NONE);
        due(x.number(1, 0, 0), NONE);
    }

    private static void meant() {
        LineCites x = told("w200;eb0,200,999;eb0,1,1;b199,1,1;");
        int[] noEdition = {-1, 2, LEAST, MOST};
        for (int e : noEdition) due(x.meant(e, 1, 0), BAD);
        int[] noNumber = {0, -1, 1000, LEAST, MOST};
        for (int n : noNumber) {
            due(x.meant(0, n, 0), BAD);
            due(x.meant(0, n, 10), BAD);
        }
        int[] noWhat = {-1, 3, 4, 5, 6, 7, 8, 9, LEAST};
        for (int what : noWhat) {
            due(x.meant(0, 999, what), BAD);
            due(x.meant(0, 1, what), BAD);
        }
        due(x.meant(0, 999, 0), 200);
        due(x.meant(0, 999, 1), 0);
        due(x.meant(0, 999, 2), 199);
        due(x.meant(0, 999, 10), 0);
        due(x.meant(0, 999, 209), 199);
        due(x.meant(0, 999, 210), NONE);
        due(x.meant(0, 999, MOST), NONE);
        due(x.meant(0, 998, 0), 0);
        due(x.meant(0, 998, 1), NONE);
        due(x.meant(0, 998, 2), NONE);
        due(x.meant(0, 998, 10), NONE);
        due(x.meant(1, 1, 0), 2);
        due(x.meant(1, 1, 10), 0);
        due(x.meant(1, 1, 11), 199);
        due(x.meant(1, 1, 12), NONE);
    }

    private static void left() {
        LineCites x = told("w9;ep0,9,1;ep0,1,1;p2,6,1;eep1,2,1;p3,4,1;");
        int[] noEdition = {-1, 4, LEAST, MOST};
        for (int e : noEdition) due(x.left(e, 0, 0), BAD);
        int[] noRow = {-1, LEAST};
        for (int i : noRow) due(x.left(0, i, 0), BAD);
        int[] noWhat = {-1, 2, LEAST, MOST};
        for (int what : noWhat) {
            due(x.left(0, 0, what), BAD);
            due(x.left(2, 0, what), BAD);
        }
        due(x.left(0, 0, 0), NONE);
        due(x.left(0, 0, 1), NONE);
        due(x.left(0, MOST, 1), NONE);
        int[][][] wants = {{}, {{1, 1}, {8, 1}}, {{0, 9}}, {{0, 1}, {7, 2}}};
        for (int e = 1; e <= 3; e++) {
            for (int i = 0; i < wants[e].length; i++) {
                due(x.left(e, i, 0), wants[e][i][0]);
                due(x.left(e, i, 1), wants[e][i][1]);
            }
            due(x.left(e, wants[e].length, 0), NONE);
            due(x.left(e, wants[e].length, 1), NONE);
        }
    }

    private static void in() {
        LineCites x = told("w9;ep0,9,1;es0,9,1;eb0,9,999;e");
        int[] noEdition = {-1, 4, LEAST, MOST};
        for (int e : noEdition) {
            due(x.in(e, 1, 0, 0), BAD);
            due(x.in(0, 1, e, 0), BAD);
        }
        int[] noNumber = {0, -1, 1000, LEAST, MOST};
        for (int n : noNumber) due(x.in(0, n, 0, 0), BAD);
        int[] noWhat = {-1, 3, 10, LEAST, MOST};
        for (int what : noWhat) due(x.in(0, 1, 0, what), BAD);
        due(x.in(2, 999, 0, 0), 9);
        due(x.in(2, 999, 0, 1), 1);
        due(x.in(2, 999, 0, 2), 9);
        due(x.in(2, 999, 1, 0), 18);
        due(x.in(0, 9, 2, 0), 1);
        due(x.in(0, 9, 2, 1), 999);
        int[][] empty = {{0, 1, 3}, {0, 10, 1}, {3, 1, 0}};
        for (int[] e : empty) {
            due(x.in(e[0], e[1], e[2], 0), 0);
            due(x.in(e[0], e[1], e[2], 1), NONE);
            due(x.in(e[0], e[1], e[2], 2), NONE);
        }
        // The least and the greatest one stand amid the lines.
        LineCites y = told("w4;eb0,4,1;eb0,1,70;b1,1,50;b2,1,90;b3,1,80;");
        due(y.in(0, 1, 1, 0), 4);
        due(y.in(0, 1, 1, 1), 50);
        due(y.in(0, 1, 1, 2), 90);
    }

    private static void through() {
        LineCites x = told("w9;ep0,9,1;eh0,9,1;eb0,9,999;e");
        int[] noEdition = {-1, 4, LEAST, MOST};
        for (int e : noEdition) {
            due(x.through(e, 1, 0, 0, 0), BAD);
            due(x.through(0, 1, e, 0, 0), BAD);
            due(x.through(0, 1, 0, e, 0), BAD);
        }
        int[] noNumber = {0, -1, 1000, LEAST, MOST};
        for (int n : noNumber) due(x.through(0, n, 0, 0, 0), BAD);
        int[] noWhat = {-1, 3, 10, LEAST, MOST};
        for (int what : noWhat) due(x.through(0, 1, 0, 0, what), BAD);
        due(x.through(0, 3, 2, 0, 0), 9);
        due(x.through(0, 3, 2, 0, 1), 1);
        due(x.through(0, 3, 2, 0, 2), 9);
        due(x.through(0, 3, 1, 0, 0), 2);
        due(x.through(0, 9, 1, 0, 0), 1);
        due(x.through(0, 9, 1, 2, 2), 999);
        int[][] empty = {{0, 1, 3, 0}, {0, 1, 0, 3}, {3, 1, 0, 0}, {0, 10, 1, 2}};
        for (int[] e : empty) {
            due(x.through(e[0], e[1], e[2], e[3], 0), 0);
            due(x.through(e[0], e[1], e[2], e[3], 1), NONE);
            due(x.through(e[0], e[1], e[2], e[3], 2), NONE);
        }
        // Line 0 has both 1 and 2, lines 1 and 2 one of these.
        LineCites y = told("w3;es0,1,1;p1,1,1;p2,1,2;ep0,3,1;");
        int[][] wants = {{3, 1, 3}, {2, 1, 2}, {2, 1, 3}};
        for (int n = 1; n <= 3; n++) {
            for (int what = 0; what <= 2; what++) due(y.through(1, n, 0, 1, what), wants[n - 1][what]);
        }
        // What was asked by way of another edition ahead does not count.
        LineCites z = told("w3;ep0,3,1;ep0,1,2;");
        due(z.through(0, 1, 0, 0, 0), 1);
        due(z.through(0, 1, 1, 0, 0), 1);
        due(z.table(1, 0, 3), 1);
        due(z.table(0, 1, 3), 1);
    }

    private static void shift() {
        LineCites x = told("w9;ep0,9,1;ep0,9,991;e");
        int[] noEdition = {-1, 3, LEAST, MOST};
        for (int e : noEdition) {
            due(x.shift(e, 0, 0, 0), BAD);
            due(x.shift(0, e, 0, 0), BAD);
            due(x.shift(e, 0, -1, 0), BAD);
            due(x.shift(0, e, -1, 0), BAD);
        }
        int[] noWhat = {-1, 3, LEAST, MOST};
        for (int what : noWhat) {
            due(x.shift(0, 1, 0, what), BAD);
            due(x.shift(0, 2, 0, what), BAD);
            due(x.shift(0, 1, -1, what), BAD);
        }
        due(x.shift(0, 1, -1, 1), BAD);
        due(x.shift(0, 1, -1, 2), BAD);
        for (int what = 0; what <= 2; what++) {
            due(x.shift(0, 1, -2, what), BAD);
            due(x.shift(0, 1, LEAST, what), BAD);
            due(x.shift(0, 1, 1, what), NONE);
            due(x.shift(0, 1, MOST, what), NONE);
            due(x.shift(0, 2, 0, what), NONE);
            due(x.shift(2, 0, 0, what), NONE);
        }
        due(x.shift(0, 1, -1, 0), 1);
        due(x.shift(0, 2, -1, 0), 0);
        due(x.shift(2, 2, -1, 0), 0);
        dueShift(x, 0, 1, 0, 1, 9, 990);
        dueShift(x, 1, 0, 0, 991, 9, -990);
        // As many as there can be: each number alone.
        LineCites y = told("w200;ep0,200,1;er0,200,800;");
        due(y.shift(0, 1, -1, 0), 200);
        dueShift(y, 0, 1, 0, 1, 1, 998);
        dueShift(y, 0, 1, 199, 200, 1, 600);
        due(y.shift(0, 1, 200, 0), NONE);
    }

    private static void dueTable(LineCites x, int a, int b, int... wants) {
        for (int what = 0; what < wants.length; what++) due(x.table(a, b, what), wants[what]);
    }

    private static void table() {
        LineCites x = told("w4;ep0,4,1;eb0,4,999;eep0,1,1;eh0,4,5;");
        int[] noEdition = {-1, 5, LEAST, MOST};
        for (int e : noEdition) {
            due(x.table(e, 0, 0), BAD);
            due(x.table(0, e, 0), BAD);
        }
        int[] noWhat = {-1, 4, LEAST, MOST};
        for (int what : noWhat) due(x.table(0, 1, what), BAD);
        dueTable(x, 0, 0, 0, 4, 0, 4);
        dueTable(x, 0, 1, 0, 4, 0, 0);
        dueTable(x, 1, 0, 0, 0, 1, 1);
        dueTable(x, 0, 2, 4, 0, 0, 0);
        dueTable(x, 2, 0, 0, 0, 0, 0);
        dueTable(x, 2, 2, 0, 0, 0, 0);
        dueTable(x, 0, 3, 3, 1, 0, 1);
        dueTable(x, 4, 0, 0, 0, 2, 2);
        dueTable(x, 0, 4, 0, 4, 0, 0);
        dueTable(x, 1, 1, 0, 1, 0, 1);
    }

    private static void share() {
        LineCites x = told("w9;ep0,4,1;ep4,5,1;ep3,2,1;ee");
        int[] noEdition = {-1, 5, LEAST, MOST};
        for (int e : noEdition) {
            due(x.share(e, 0), BAD);
            due(x.share(0, e), BAD);
        }
        due(x.share(3, 4), NONE);
        due(x.share(3, 3), NONE);
        due(x.share(0, 3), 0);
        due(x.share(3, 0), 0);
        due(x.share(0, 1), 0);
        due(x.share(0, 2), 200);
        due(x.share(2, 2), 1000);
    }

    private static void dueCitation(LineCites x, int citation, int... wants) {
        for (int what = 0; what < wants.length; what++) due(x.citation(citation, what), wants[what]);
    }

    private static void citation() {
        LineCites x = told("w9;ep0,9,991;eb0,1,1;b2,1,1;");
        x.cite(0, 0, 0, 991, 999);
        x.cite(1, 0, 1, 999, 0);
        x.cite(2, 0, 2, 999, 0);
        x.cite(3, 0, 0, 1, 990);
        x.cite(4, 1, 0, 1, 1);
        x.cite(7, 0, 0, 999, 999);
        int[] none = {-1, 5, 6, 8, LEAST, MOST};
        for (int c : none) due(x.citation(c, 0), BAD);
        int[] noWhat = {-1, 8, LEAST, MOST};
        for (int what : noWhat) due(x.citation(0, what), BAD);
        dueCitation(x, 0, 0, 0, 991, 999, 9, 0, 8, 1);
        dueCitation(x, 1, 0, 1, 999, 1000, 1, 8, 8, 1);
        dueCitation(x, 2, 0, 2, 999, 1001, 1, 8, 8, 1);
        dueCitation(x, 3, 0, 0, 1, 990, 0, NONE, NONE, 0);
        dueCitation(x, 4, 1, 0, 1, 1, 2, 0, 2, 0);
        dueCitation(x, 7, 0, 0, 999, 999, 1, 8, 8, 1);
        x.cite(0, 1, 1, 1, 0);
        dueCitation(x, 0, 1, 1, 1, 2, 2, 0, 2, 0);
    }

    private static void dueTurned(LineCites x, int citation, int edition, int least, int greatest, int exact) {
        due(x.turned(citation, edition, 0), least);
        due(x.turned(citation, edition, 1), greatest);
        due(x.turned(citation, edition, 2), exact);
    }

    private static void turned() {
        LineCites x = told("w9;ep0,9,1;es0,9,982;eb0,9,5;ep8,1,1;e");
        x.cite(0, 0, 0, 1, 999);
        x.cite(1, 0, 0, 10, 999);
        x.cite(2, 0, 0, 9, 9);
        x.cite(7, 0, 1, 1, 0);
        int[] none = {-1, 3, 8, LEAST, MOST};
        for (int c : none) due(x.turned(c, 0, 0), BAD);
        int[] noEdition = {-1, 5, LEAST, MOST};
        for (int e : noEdition) due(x.turned(0, e, 0), BAD);
        int[] noWhat = {-1, 3, LEAST, MOST};
        for (int what : noWhat) {
            due(x.turned(0, 0, what), BAD);
            due(x.turned(0, 4, what), BAD);
        }
        dueTurned(x, 0, 0, 1, 9, 1);
        dueTurned(x, 0, 1, 982, 999, 1);
        dueTurned(x, 0, 2, 5, 5, 1);
        dueTurned(x, 0, 3, 1, 1, 0);
        dueTurned(x, 0, 4, NONE, NONE, 0);
        dueTurned(x, 1, 0, NONE, NONE, 0);
        dueTurned(x, 1, 4, NONE, NONE, 0);
        dueTurned(x, 2, 3, 1, 1, 1);
        dueTurned(x, 2, 1, 998, 999, 1);
        dueTurned(x, 2, 2, 5, 5, 0);
        dueTurned(x, 7, 3, NONE, NONE, 0);
        dueTurned(x, 7, 1, 982, 985, 1);
    }

    private static void dueMeet(LineCites x, int a, int b, int... wants) {
        for (int what = 0; what < wants.length; what++) due(x.meet(a, b, what), wants[what]);
    }

    private static void meet() {
        LineCites x = told("w9;ep0,9,1;er0,9,1;");
        x.cite(0, 0, 0, 1, 4);
        x.cite(1, 1, 0, 1, 6);
        x.cite(2, 0, 0, 5, 999);
        x.cite(7, 0, 0, 10, 999);
        int[] none = {-1, 3, 8, LEAST, MOST};
        for (int c : none) {
            due(x.meet(c, 0, 0), BAD);
            due(x.meet(0, c, 0), BAD);
        }
        int[] noWhat = {-1, 3, LEAST, MOST};
        for (int what : noWhat) due(x.meet(0, 1, what), BAD);
        dueMeet(x, 0, 1, 1, 3, 5);
        dueMeet(x, 1, 0, 1, 5, 3);
        dueMeet(x, 0, 2, 0, 4, 5);
        dueMeet(x, 0, 0, 4, 0, 0);
        dueMeet(x, 7, 7, 0, 0, 0);
        dueMeet(x, 0, 7, 0, 4, 0);
        dueMeet(x, 7, 0, 0, 0, 4);
    }

    private static void could() {
        LineCites x = told("w9;ep0,9,1;er0,9,1;eb8,1,999;");
        x.cite(0, 0, 0, 1, 1);
        x.cite(1, 1, 2, 999, 0);
        x.cite(2, 0, 2, 997, 0);
        x.cite(7, 0, 0, 1, 999);
        int[] none = {-1, 3, 8, LEAST, MOST};
        for (int c : none) due(x.could(c, 0), BAD);
        int[] noLine = {-1, 9, LEAST, MOST};
        for (int line : noLine) due(x.could(0, line), BAD);
        due(x.could(0, 0), 1);
        due(x.could(0, 8), 2);
        due(x.could(0, 4), 0);
        due(x.could(1, 8), 4);
        due(x.could(1, 7), 0);
        due(x.could(2, 8), 4);
        due(x.could(7, 8), 7);
        due(x.could(7, 0), 3);
    }

    private static void score() {
        LineCites x = told("w9;ep0,9,1;es8,1,998;");
        int[] noEdition = {-1, 2, LEAST, MOST};
        for (int e : noEdition) due(x.score(e, 0), BAD);
        int[] noWhat = {-1, 2, LEAST, MOST};
        for (int what : noWhat) due(x.score(0, what), BAD);
        due(x.score(0, 0), 0);
        due(x.score(0, 1), NONE);
        x.see(999, 8);
        due(x.score(0, 0), 0);
        due(x.score(0, 1), 0);
        due(x.score(1, 0), 1);
        due(x.score(1, 1), 1000);
        x.see(1, 0);
        x.see(998, 8);
        due(x.score(0, 1), 333);
        due(x.score(1, 1), 666);
        // What was seen is looked up anew as the editions change.
        x.drop(1, 0);
        due(x.score(1, 0), 0);
        due(x.score(1, 1), 0);
        for (int i = 0; i < 4; i++) x.undo();
        due(x.score(1, 1), NONE);
    }

    private static void best() {
        LineCites x = new LineCites();
        due(x.best(), STATE);
        tell(x, "w2;");
        due(x.best(), NONE);
        tell(x, "w2;eep0,1,5;ep0,1,5;");
        due(x.best(), 0);
        x.see(5, 1);
        due(x.best(), 0);
        x.see(5, 0);
        due(x.best(), 1);
        x.drop(1, 0);
        due(x.best(), 2);
        x.add(0, 1, 0, 1, 5);
        due(x.best(), 0);
        LineCites y = told("w2;eeeeep0,1,5;");
        y.see(5, 0);
        due(y.best(), 4);
    }

    private static void image() {
        LineCites x = new LineCites();
        int[] none = {-1, 2, LEAST, MOST};
        for (int k : none) due(x.image(k), BAD);
        for (int k = 0; k <= 1; k++) due(x.image(k), STATE);
        tell(x, "w");
        due(x.image(0), STATE);
        tell(x, "w1;");
        for (int k : none) due(x.image(k), BAD);
        due(x.image(0), 1);
        due(x.restore(1), STATE);
        due(x.image(1), 1);
        due(x.restore(1), 1);
        // Each is kept by itself, and the later one in place of the one before.
        tell(x, "w2;");
        due(x.image(1), 1);
        tell(x, "w3;");
        due(x.image(1), 1);
        due(x.restore(0), 1);
        due(x.count(0), 1);
        due(x.restore(1), 1);
        due(x.count(0), 3);
    }

    private static void restore() {
        LineCites x = new LineCites();
        int[] none = {-1, 2, LEAST, MOST};
        for (int k : none) due(x.restore(k), BAD);
        for (int k = 0; k <= 1; k++) due(x.restore(k), STATE);
        tell(x, FOUR);
        for (int k = 0; k <= 1; k++) due(x.restore(k), STATE);
        x.see(1, 0);
        x.cite(7, 2, 1, 4, 0);
        x.alter(2, 1, 2, 2);
        List<Integer> before = looks(x);
        due(x.image(1), 1);
        due(x.restore(0), STATE);
        // An image kept, and one taken back, does not change with what comes behind.
        for (int turn = 0; turn < 2; turn++) {
            x.see(1, 1);
            x.strike(7);
            x.drop(2, 0);
            x.add(3, 5, 0, 12, 9);
            due(x.restore(1), 1);
            List<Integer> behind = looks(x);
            before.set(5, 0);
            for (int i = 0; i < before.size(); i++) due(behind.get(i), before.get(i));
            due(x.undo(), STATE);
        }
        due(x.see(3, 3), 2);
        due(x.undo(), 0);
        due(x.undo(), STATE);
    }

    private static void restoreSeen() {
        LineCites x = told("w4;ep0,4,1;");
        x.see(1, 0);
        x.see(2, 1);
        x.see(9, 2);
        due(x.image(0), 1);
        due(tell(x, "w4;ep0,4,1;"), 1);
        for (int i = 0; i < 4; i++) x.see(4, 3);
        due(x.image(1), 1);
        due(x.restore(0), 1);
        due(x.count(4), 3);
        due(x.score(0, 0), 2);
        due(x.restore(1), 1);
        due(x.count(4), 4);
        due(x.score(0, 0), 4);
    }

    private static void restoreOfAll() {
        LineCites x = told(FOUR);
        tell(x, "w0");
        feedAll(x, "w7;e");
        due(x.image(0), 1);
        due(x.work(), 1);
        due(tell(x, "!"), FAULT_AT_0);
        feedAll(x, "ee");
        due(x.restore(0), 1);
        due(x.fault(), 2);
        due(x.count(6), 4);
        due(x.feed('e'), 5);
        due(x.work(), 2);
        due(x.count(0), 7);
    }

    private static void count() {
        LineCites x = new LineCites();
        int[] none = {-1, 7, LEAST, MOST};
        for (int what : none) due(x.count(what), BAD);
        tell(x, "w200;" + "eb0,1,1;b1,1,1;b2,1,1;b3,1,1;".repeat(5));
        for (int e = 0; e < 5; e++) {
            x.add(e, 1, 4, 1, 1);
            x.add(e, 1, 5, 1, 1);
        }
        for (int c = 0; c <= 7; c++) x.cite(c, 0, 0, 1, 1);
        for (int i = 0; i < 12; i++) x.see(1, 0);
        for (int i = 0; i < 200; i++) x.feed('w');
        int[] most = {200, 5, 30, 8, 12, 10, 200};
        for (int what = 0; what <= 6; what++) due(x.count(what), most[what]);
        for (int what : none) due(x.count(what), BAD);
    }

    private interface Check {
        void run();
    }

    private static void check(String quoted, Check run) {
        sentence = quoted;
        sentences++;
        run.run();
    }

    private static void terms() {
        check("at most 512 calls", BoundaryTests::the512thCall);
        check("NONE = -1000000, BAD = -1000001, STATE = -1000002, FULL = -1000003", BoundaryTests::constants);
        check("All that is divided is cut towards 0", BoundaryTests::cutTowards0);
        check("THOUSANDTHS: above by below, both as floats, times 1000, as a whole number", BoundaryTests::thousandths);
        check("Sets of editions are bits.", BoundaryTests::setsAreBits);
        check("Refusals are answers, the first of these that fits: BAD ahead of STATE", BoundaryTests::badAheadOfState);
        check("Refusals are answers, the first of these that fits: BAD ahead of FULL", BoundaryTests::badAheadOfFull);
        check("What is refused changes nothing.", BoundaryTests::refusedChangesNothing);
        check("What is refused changes nothing: STATE", BoundaryTests::refusedWhereNothingIs);
    }

    private static void tape() {
        check("THE TAPE has at most 200 bytes", BoundaryTests::tapeOf200);
        check("THE TAPE has at most 200 bytes: all are read", BoundaryTests::tapeReadToItsEnd);
        check("letters a to z, NUMBERS, SIGNS , and ; nothing else", BoundaryTests::tokens);
        check("letters a to z (each by itself)", BoundaryTests::letterByItself);
        check("NUMBERS (figures, 3 at most)", BoundaryTests::threeFigures);
        check("SIGNS , and ; nothing else", BoundaryTests::noOtherSign);
        check("LINES 1 to 200", BoundaryTests::linesFrom1To200);
        check("lines 0 to LINES less 1; FROM a line", BoundaryTests::lastLine);
        check("MANY 1 on, FROM and MANY, together, LINES at most", BoundaryTests::many);
        check("no line of it in another stretch of the edition that was told ahead", BoundaryTests::noLineTwice);
        check("FIRST 1 to 999", BoundaryTests::first);
        check("as long as no number is beyond 999", BoundaryTests::nothingBeyond999);
        check("EDITIONS 0 .. (5 at most)", BoundaryTests::editions);
        check("STRETCHES of each 0 .. (6 at most)", BoundaryTests::stretches);
        check("A WORK that is read stands in place of the one before; IMAGES stay.", BoundaryTests::workReadAnew);
        check("FAULTS, the first TOKEN that has one (its first byte)", BoundaryTests::firstTokenThatHasOne);
        check("of one TOKEN the least", BoundaryTests::ofOneTokenTheLeast);
        check("1 it cannot stand there, or is none", BoundaryTests::cannotStandThere);
        check("a run of four figures or more, at its first", BoundaryTests::fourFigures);
        check("the end: how many bytes there are", BoundaryTests::theEnd);
        check("a line that is in another stretch already: at FROM, if FROM is; else at MANY", BoundaryTests::lineInAnother);
    }

    private static void stretchesAndActs() {
        check("A STRETCH numbers its line FROM and i", BoundaryTests::stretchNumbers);
        check("Lines in no STRETCH of an EDITION have no number there.", BoundaryTests::inNoStretch);
        check("Numbers of unlike STRETCHES may be the same ones.", BoundaryTests::sameNumbers);
        check("IN another EDITION (the same one, too)", BoundaryTests::inItself);
        check("numbers of a one behind the other, each of which has some number IN b", BoundaryTests::shiftEnds);
        check("an s (below 0, too)", BoundaryTests::shiftBelow0);
        check("n and s, together, from the least to the greatest of those", BoundaryTests::shiftFromLeastToGreatest);
        check("Its s: of those that fit that nearest to 0.", BoundaryTests::shiftNearest0);
        check("from a number to another one (KIND 0), one and the next (1), the next two (2)", BoundaryTests::citationNumbers);
        check("EXACT, if a CITATION of these would have just the same LINES", BoundaryTests::exact);
        check("SEEN are numbers with lines (12 at most).", BoundaryTests::seen12);
        check("ACTS (10 at most are kept)", BoundaryTests::acts10);
        check("of more the oldest is forgotten", BoundaryTests::oldestForgotten);
        check("of more the oldest is forgotten: round and round", BoundaryTests::actsGoRound);
        check("each can be undone, the latest first", BoundaryTests::latestFirst);
        check("also such by which nothing becomes another", BoundaryTests::actsOfNoChange);
        check("a STRETCH more, gone, told anew (as it was, too), a CITATION made, gone, something SEEN",
                BoundaryTests::eachActUndone);
        check("ACTS are these alone", BoundaryTests::noActs);
    }

    private static void promises1To17() {
        check("1: No WORK.", BoundaryTests::noWork);
        check("1: EDITIONS 0: a WORK without one", BoundaryTests::noEdition);
        check("2: A byte (0 to 255). BAD; FULL.", BoundaryTests::feed);
        check("3: all stays, but the tape is empty then, and fault() tells this one", BoundaryTests::work);
        check("4: The number of the latest FAULT; 0 before one.", BoundaryTests::fault);
        check("5: STATE: none.", BoundaryTests::undo);
        check("6: BAD (as a text's would be, too)", BoundaryTests::add);
        check("6: FULL: 6.", BoundaryTests::addFull);
        check("7: those behind it have numbers that are 1 less. BAD.", BoundaryTests::drop);
        check("8: BAD (it could not be told so, the other STRETCHES being told, too).", BoundaryTests::alter);
        check("9: (0 to 7), (0 to 2), (1 to 999), (KIND 0: from to 999; else 0). BAD.", BoundaryTests::cite);
        check("10: BAD: there is none.", BoundaryTests::strike);
        check("11: BAD (no WORK, too)", BoundaryTests::see);
        check("12: 0 KIND .. 4 the greatest number it has. BAD.", BoundaryTests::stretch);
        check("13: of a KIND (0 to 5); NONE: it is not of that. BAD.", BoundaryTests::as);
        check("14: (NONE: none). BAD.", BoundaryTests::edition);
        check("15: NONE: none. BAD.", BoundaryTests::number);
        check("16: (NONE: none), (NONE: not so many). BAD (3 to 9, too).", BoundaryTests::meant);
        check("17: row i (0 on); NONE: not so many. BAD.", BoundaryTests::left);
    }

    private static void promises18To31() {
        check("18: n (1 to 999), (NONE: none). BAD.", BoundaryTests::in);
        check("19: the greatest one (2; NONE: none). BAD.", BoundaryTests::through);
        check("20: NONE: not so many; i = -1 (what 0; else BAD). BAD (i below -1, too).", BoundaryTests::shift);
        check("21: how many have no number IN b, just one, more, come back alone. BAD.", BoundaryTests::table);
        check("22: NONE: no line has. BAD.", BoundaryTests::share);
        check("23: (NONE: none), (1; 0, also of no LINES). BAD.", BoundaryTests::citation);
        check("24: (1; NONE: no line has one there), EXACT (2; 1, 0). BAD.", BoundaryTests::turned);
        check("25: Two CITATIONS (the same one, too). BAD.", BoundaryTests::meet);
        check("26: EDITIONS (a set). BAD.", BoundaryTests::could);
        check("27: (1; NONE: nothing is). BAD.", BoundaryTests::score);
        check("28: of several the least; NONE: there are none. STATE: no WORK.", BoundaryTests::best);
        check("29: An IMAGE (0, 1). BAD; STATE: no WORK.", BoundaryTests::image);
        check("30: (no ACT can be undone then). BAD; STATE: none was kept.", BoundaryTests::restore);
        check("30: All is as an IMAGE kept it: what was SEEN", BoundaryTests::restoreSeen);
        check("30: All is as an IMAGE kept it: the tape and the fault, too", BoundaryTests::restoreOfAll);
        check("31: 0 lines .. 6 bytes on the tape. BAD.", BoundaryTests::count);
    }

    public static void main(String[] args) {
        terms();
        tape();
        stretchesAndActs();
        promises1To17();
        promises18To31();
        System.out.println(sentences + " sentences, " + checks + " answers looked at, " + wrong + " not as due");
        if (wrong != 0) System.exit(1);
    }
}
