/**
 * A work of lines, editions that number them, and citations by these numbers.
 * Every refusal is an answer; no call throws.
 */
public final class LineCites {
    public static final int NONE = -1000000, BAD = -1000001, STATE = -1000002, FULL = -1000003;

    private static final int FAULT_AT_0 = -1000100;
    private static final int MOST_BYTES = 200, MOST_LINES = 200;
    private static final int MOST_EDITIONS = 5, MOST_STRETCHES = 6;
    private static final int MOST_CITATIONS = 8, MOST_SEEN = 12, MOST_ACTS = 10, MOST_IMAGES = 2;
    private static final int MOST_NUMBER = 999;
    private static final int PLAIN = 1, SPLIT = 2, HALVED = 3, TURNED = 4, BLOCK = 5;
    private static final int KIND = 0, FROM = 1, MANY = 2, FIRST = 3;
    private static final int CITED_EDITION = 0, CITED_KIND = 1, CITED_FROM = 2, CITED_TO = 3;
    private static final int PARTS = 4;

    private final Tape tape;
    private final Work now;
    private final Work draft;
    private final Reader reader;
    private final Acts acts;
    private final Image[] images;
    // Rows that queries fill anew each time, so that no query makes an object.
    private final Numbering one;
    private final Numbering other;
    private final Numbering third;
    private final Spans spans;
    private final Spans back;
    private final Span span;
    private final NumberSet middle;
    private final NumberSet reached;

    public LineCites() {
        tape = new Tape();
        now = new Work();
        draft = new Work();
        reader = new Reader(tape, draft);
        acts = new Acts();
        images = new Image[MOST_IMAGES];
        one = new Numbering();
        other = new Numbering();
        third = new Numbering();
        spans = new Spans();
        back = new Spans();
        span = new Span();
        middle = new NumberSet();
        reached = new NumberSet();
    }

    // ---- what is told

    public int feed(int letter) {
        if (letter < 0 || letter > 255) return BAD;
        return tape.put(letter) ? tape.size() : FULL;
    }

    public int work() {
        boolean isRead = reader.readHead() && reader.readEditions();
        tape.empty();
        if (!isRead) {
            tape.noteFault(reader.faultNumber());
            return FAULT_AT_0 - reader.faultPlace();
        }
        now.take(draft);
        acts.forget();
        return now.editions();
    }

    public int fault() {
        return tape.latestFault();
    }

    public int undo() {
        return acts.takeBack(now) ? acts.size() : STATE;
    }

    // ---- what is done

    public int add(int edition, int kind, int from, int many, int first) {
        if (!now.hasEdition(edition)) return BAD;
        if (!now.stretchFits(edition, -1, kind, from, many, first)) return BAD;
        if (now.stretchesOf(edition) >= MOST_STRETCHES) return FULL;
        acts.keep(now);
        now.putStretch(edition, kind, from, many, first);
        return now.stretchesOf(edition);
    }

    public int drop(int edition, int stretch) {
        if (!now.hasStretch(edition, stretch)) return BAD;
        acts.keep(now);
        now.removeStretch(edition, stretch);
        return now.stretchesOf(edition);
    }

    public int alter(int edition, int stretch, int which, int v) {
        if (!now.hasStretch(edition, stretch) || which < KIND || which > FIRST) return BAD;
        int kind = which == KIND ? v : now.part(edition, stretch, KIND);
        int from = which == FROM ? v : now.part(edition, stretch, FROM);
        int many = which == MANY ? v : now.part(edition, stretch, MANY);
        int first = which == FIRST ? v : now.part(edition, stretch, FIRST);
        if (!now.stretchFits(edition, stretch, kind, from, many, first)) return BAD;
        int before = now.part(edition, stretch, which);
        acts.keep(now);
        now.setPart(edition, stretch, which, v);
        return before;
    }

    public int cite(int citation, int edition, int kind, int from, int to) {
        if (citation < 0 || citation >= MOST_CITATIONS || !now.hasEdition(edition)) return BAD;
        if (kind < 0 || kind > 2 || !isNumber(from)) return BAD;
        if (kind == 0 ? to < from || to > MOST_NUMBER : to != 0) return BAD;
        acts.keep(now);
        now.putCitation(citation, edition, kind, from, kind == 0 ? to : from + kind);
        spanLinesOf(citation);
        return span.size();
    }

    public int strike(int citation) {
        if (!now.hasCitation(citation)) return BAD;
        acts.keep(now);
        now.removeCitation(citation);
        return now.citations();
    }

    public int see(int number, int line) {
        if (!isNumber(number) || !now.hasLine(line)) return BAD;
        if (now.seen() >= MOST_SEEN) return FULL;
        acts.keep(now);
        now.putSeen(number, line);
        return now.seen();
    }

    // ---- editions

    public int stretch(int edition, int stretch, int what) {
        if (!now.hasStretch(edition, stretch) || what < 0 || what > 4) return BAD;
        if (what < PARTS) return now.part(edition, stretch, what);
        return greatestOf(now.part(edition, stretch, KIND),
                now.part(edition, stretch, MANY), now.part(edition, stretch, FIRST));
    }

    public int as(int edition, int stretch, int kind) {
        if (!now.hasStretch(edition, stretch) || kind < 0 || kind > BLOCK) return BAD;
        return isOfKind(now.part(edition, stretch, KIND), kind) ? stretch : NONE;
    }

    public int edition(int edition, int what) {
        if (!now.hasEdition(edition) || what < 0 || what > 6) return BAD;
        if (what == 0) return now.stretchesOf(edition);
        one.fill(now, edition);
        if (what == 1) return one.numberedLines();
        spans.fillWithLines(one);
        if (what == 5) return spans.ofSeveral();
        if (what == 6) return spans.scattered();
        spans.spanNumbers(span);
        return span.answer(what - 2);
    }

    public int number(int edition, int line, int what) {
        if (!now.hasEdition(edition) || !now.hasLine(line) || what < 0 || what > 1) return BAD;
        one.fill(now, edition);
        if (!one.isNumbered(line)) return NONE;
        return what == 0 ? one.low(line) : one.high(line);
    }

    public int meant(int edition, int number, int what) {
        if (!now.hasEdition(edition) || !isNumber(number)) return BAD;
        if (what < 0 || what > 2 && what < 10) return BAD;
        one.fill(now, edition);
        if (what >= 10) return one.lineAmong(number, what - 10);
        one.spanLines(number, number, span);
        return span.answer(what);
    }

    public int left(int edition, int i, int what) {
        if (!now.hasEdition(edition) || i < 0 || what < 0 || what > 1) return BAD;
        one.fill(now, edition);
        int row = -1;
        for (int line = 0; line < now.lines(); line++) {
            if (!one.beginsBareRow(line)) continue;
            row++;
            if (row == i) return what == 0 ? line : one.bareLinesFrom(line);
        }
        return NONE;
    }

    // ---- from one to another

    public int in(int a, int n, int b, int what) {
        if (!now.hasEdition(a) || !now.hasEdition(b) || !isNumber(n)) return BAD;
        if (what < 0 || what > 2) return BAD;
        one.fill(now, a);
        other.fill(now, b);
        reached.gatherOf(n, one, other);
        return reached.answer(what);
    }

    public int through(int a, int n, int c, int b, int what) {
        if (!now.hasEdition(a) || !now.hasEdition(b) || !now.hasEdition(c)) return BAD;
        if (!isNumber(n) || what < 0 || what > 2) return BAD;
        one.fill(now, a);
        third.fill(now, c);
        other.fill(now, b);
        middle.gatherOf(n, one, third);
        reached.gatherOfSet(middle, third, other);
        return reached.answer(what);
    }

    public int shift(int a, int b, int i, int what) {
        if (!now.hasEdition(a) || !now.hasEdition(b) || i < -1) return BAD;
        if (what < 0 || what > 2 || i == -1 && what != 0) return BAD;
        one.fill(now, a);
        other.fill(now, b);
        spans.fillWithNumbers(one, other);
        spans.beginShifts();
        int found = 0;
        // No shift is without a number, so there are no more shifts than numbers.
        for (int n = 1; n <= MOST_NUMBER && spans.nextShift(); n++) {
            if (found == i) return spans.shiftAnswer(what);
            found++;
        }
        return i == -1 ? found : NONE;
    }

    public int table(int a, int b, int what) {
        if (!now.hasEdition(a) || !now.hasEdition(b) || what < 0 || what > 3) return BAD;
        one.fill(now, a);
        other.fill(now, b);
        spans.fillWithLines(one);
        int owned = spans.numbers();
        spans.fillWithNumbers(one, other);
        if (what == 0) return owned - spans.numbers();
        if (what < 3) return spans.ofDoubt(what);
        back.fillWithNumbers(other, one);
        spans.fillThrough(one, other, back);
        // A number is always among those that it comes back as, so just one is that one.
        return spans.ofDoubt(1);
    }

    public int share(int a, int b) {
        if (!now.hasEdition(a) || !now.hasEdition(b)) return BAD;
        one.fill(now, a);
        other.fill(now, b);
        int both = 0;
        int some = 0;
        for (int line = 0; line < now.lines(); line++) {
            if (one.isNumbered(line) && other.isNumbered(line)) both++;
            if (one.isNumbered(line) || other.isNumbered(line)) some++;
        }
        return thousandths(both, some);
    }

    // ---- citations

    public int citation(int citation, int what) {
        if (!now.hasCitation(citation) || what < 0 || what > 7) return BAD;
        if (what < PARTS) return now.citedPart(citation, what);
        spanLinesOf(citation);
        if (what == 7) return span.isSideBySide() ? 1 : 0;
        return span.answer(what - 4);
    }

    public int turned(int citation, int edition, int what) {
        if (!now.hasCitation(citation) || !now.hasEdition(edition)) return BAD;
        if (what < 0 || what > 2) return BAD;
        fillCited(one, citation);
        other.fill(now, edition);
        int from = now.citedPart(citation, CITED_FROM);
        int to = now.citedPart(citation, CITED_TO);
        span.clear();
        for (int line = 0; line < now.lines(); line++) {
            if (!one.has(line, from, to) || !other.isNumbered(line)) continue;
            span.put(other.low(line));
            span.put(other.high(line));
        }
        if (what < 2) return span.answer(what + 1);
        return !span.isEmpty() && isSameLines(from, to, span.least(), span.greatest()) ? 1 : 0;
    }

    public int meet(int a, int b, int what) {
        if (!now.hasCitation(a) || !now.hasCitation(b) || what < 0 || what > 2) return BAD;
        fillCited(one, a);
        fillCited(other, b);
        int found = 0;
        for (int line = 0; line < now.lines(); line++) {
            boolean inA = isCited(one, line, a);
            boolean inB = isCited(other, line, b);
            if ((what == 2 ? !inA : inA) && (what == 1 ? !inB : inB)) found++;
        }
        return found;
    }

    public int could(int citation, int line) {
        if (!now.hasCitation(citation) || !now.hasLine(line)) return BAD;
        int set = 0;
        for (int edition = 0; edition < now.editions(); edition++) {
            one.fill(now, edition);
            if (isCited(one, line, citation)) set |= 1 << edition;
        }
        return set;
    }

    public int score(int edition, int what) {
        if (!now.hasEdition(edition) || what < 0 || what > 1) return BAD;
        int points = scoreOf(edition);
        return what == 0 ? points : thousandths(points, now.seen());
    }

    public int best() {
        if (now.lines() == 0) return STATE;
        int found = NONE;
        int most = -1;
        for (int edition = 0; edition < now.editions(); edition++) {
            int points = scoreOf(edition);
            if (points > most) {
                most = points;
                found = edition;
            }
        }
        return found;
    }

    public int image(int k) {
        if (k < 0 || k >= images.length) return BAD;
        if (now.lines() == 0) return STATE;
        Image kept = images[k];
        if (kept == null) {
            kept = new Image();
            images[k] = kept;
        }
        kept.work.take(now);
        kept.tape.take(tape);
        return 1;
    }

    public int restore(int k) {
        if (k < 0 || k >= images.length) return BAD;
        Image kept = images[k];
        if (kept == null) return STATE;
        now.take(kept.work);
        tape.take(kept.tape);
        acts.forget();
        return 1;
    }

    public int count(int what) {
        switch (what) {
            case 0: return now.lines();
            case 1: return now.editions();
            case 2: return now.stretches();
            case 3: return now.citations();
            case 4: return now.seen();
            case 5: return acts.size();
            case 6: return tape.size();
            default: return BAD;
        }
    }

    // ---- what several calls need

    private static boolean isNumber(int n) {
        return n >= 1 && n <= MOST_NUMBER;
    }

    private static int thousandths(int above, int below) {
        if (below == 0) return NONE;
        return (int) ((float) above / (float) below * 1000f);
    }

    private static boolean isOfKind(int own, int kind) {
        return kind == 0 || kind == own || kind == PLAIN && (own == SPLIT || own == HALVED);
    }

    /** The least number of line i of a stretch. */
    private static int lowOf(int kind, int many, int first, int i) {
        switch (kind) {
            case PLAIN: return first + i;
            case SPLIT: return first + 2 * i;
            case HALVED: return first + i / 2;
            case TURNED: return first + many - 1 - i;
            default: return first;
        }
    }

    /** The greatest number of line i of a stretch: only a SPLIT line has two. */
    private static int highOf(int kind, int many, int first, int i) {
        int low = lowOf(kind, many, first, i);
        return kind == SPLIT ? low + 1 : low;
    }

    private static int greatestOf(int kind, int many, int first) {
        return highOf(kind, many, first, kind == TURNED ? 0 : many - 1);
    }

    private void fillCited(Numbering numbering, int citation) {
        numbering.fill(now, now.citedPart(citation, CITED_EDITION));
    }

    private boolean isCited(Numbering numbering, int line, int citation) {
        return numbering.has(line, now.citedPart(citation, CITED_FROM), now.citedPart(citation, CITED_TO));
    }

    private void spanLinesOf(int citation) {
        fillCited(one, citation);
        one.spanLines(now.citedPart(citation, CITED_FROM), now.citedPart(citation, CITED_TO), span);
    }

    private boolean isSameLines(int from, int to, int otherFrom, int otherTo) {
        for (int line = 0; line < now.lines(); line++) {
            if (one.has(line, from, to) != other.has(line, otherFrom, otherTo)) return false;
        }
        return true;
    }

    private int scoreOf(int edition) {
        one.fill(now, edition);
        int points = 0;
        for (int i = 0; i < now.seen(); i++) {
            if (one.has(now.seenLine(i), now.seenNumber(i), now.seenNumber(i))) points++;
        }
        return points;
    }

    /** The bytes that came, and what the latest faulty ones were blamed for. */
    private static final class Tape {
        private final byte[] bytes = new byte[MOST_BYTES];
        private int size;
        private int latestFault;

        boolean put(int b) {
            if (size < 0 || size >= bytes.length) return false;
            bytes[size] = (byte) b;
            size++;
            return true;
        }

        int size() {
            return size;
        }

        int byteAt(int place) {
            return place < 0 || place >= size || place >= bytes.length ? 0 : bytes[place] & 255;
        }

        void empty() {
            size = 0;
        }

        int latestFault() {
            return latestFault;
        }

        void noteFault(int number) {
            latestFault = number;
        }

        void take(Tape from) {
            System.arraycopy(from.bytes, 0, bytes, 0, MOST_BYTES);
            size = from.size;
            latestFault = from.latestFault;
        }
    }

    /** A work with its editions, and what was cited and seen of it; 0 lines: no work. */
    private static final class Work {
        private final int[] stretchCounts = new int[MOST_EDITIONS];
        private final int[] stretchParts = new int[MOST_EDITIONS * MOST_STRETCHES * PARTS];
        // A citation from 0 is none: no number is 0.
        private final int[] citedParts = new int[MOST_CITATIONS * PARTS];
        private final int[] seenNumbers = new int[MOST_SEEN];
        private final int[] seenLines = new int[MOST_SEEN];
        private int lines;
        private int editions;
        private int seen;

        void take(Work from) {
            System.arraycopy(from.stretchCounts, 0, stretchCounts, 0, MOST_EDITIONS);
            System.arraycopy(from.stretchParts, 0, stretchParts, 0, MOST_EDITIONS * MOST_STRETCHES * PARTS);
            System.arraycopy(from.citedParts, 0, citedParts, 0, MOST_CITATIONS * PARTS);
            System.arraycopy(from.seenNumbers, 0, seenNumbers, 0, MOST_SEEN);
            System.arraycopy(from.seenLines, 0, seenLines, 0, MOST_SEEN);
            lines = from.lines;
            editions = from.editions;
            seen = from.seen;
        }

        /** Nothing is ever cited or seen of a draft, so only the editions go. */
        void begin(int howManyLines) {
            lines = howManyLines;
            editions = 0;
        }

        int lines() {
            return lines;
        }

        boolean hasLine(int line) {
            return line >= 0 && line < lines;
        }

        // -- editions and stretches

        int editions() {
            return editions;
        }

        boolean hasEdition(int edition) {
            return edition >= 0 && edition < editions && edition < stretchCounts.length;
        }

        boolean putEdition() {
            if (editions < 0 || editions >= stretchCounts.length) return false;
            stretchCounts[editions] = 0;
            editions++;
            return true;
        }

        int stretchesOf(int edition) {
            return hasEdition(edition) ? stretchCounts[edition] : 0;
        }

        int stretches() {
            int sum = 0;
            for (int edition = 0; edition < editions; edition++) sum += stretchesOf(edition);
            return sum;
        }

        boolean hasStretch(int edition, int stretch) {
            return stretch >= 0 && stretch < stretchesOf(edition);
        }

        private static int placeOf(int edition, int stretch, int which) {
            return (edition * MOST_STRETCHES + stretch) * PARTS + which;
        }

        int part(int edition, int stretch, int which) {
            int place = placeOf(edition, stretch, which);
            return place < 0 || place >= stretchParts.length ? 0 : stretchParts[place];
        }

        void setPart(int edition, int stretch, int which, int v) {
            int place = placeOf(edition, stretch, which);
            if (place >= 0 && place < stretchParts.length) stretchParts[place] = v;
        }

        void putStretch(int edition, int kind, int from, int many, int first) {
            int stretch = stretchesOf(edition);
            if (!hasEdition(edition) || stretch >= MOST_STRETCHES) return;
            setPart(edition, stretch, KIND, kind);
            setPart(edition, stretch, FROM, from);
            setPart(edition, stretch, MANY, many);
            setPart(edition, stretch, FIRST, first);
            stretchCounts[edition] = stretch + 1;
        }

        void removeStretch(int edition, int stretch) {
            if (!hasStretch(edition, stretch)) return;
            for (int s = stretch; s + 1 < stretchCounts[edition]; s++) {
                for (int which = 0; which < PARTS; which++) {
                    setPart(edition, s, which, part(edition, s + 1, which));
                }
            }
            stretchCounts[edition]--;
        }

        /** Whether a stretch could be told so, beside all of the edition but the one numbered skip. */
        boolean stretchFits(int edition, int skip, int kind, int from, int many, int first) {
            return kind >= PLAIN && kind <= BLOCK && fromFits(edition, skip, from)
                    && manyFits(edition, skip, from, many) && firstFits(kind, many, first);
        }

        boolean fromFits(int edition, int skip, int from) {
            return hasLine(from) && isFree(edition, skip, from, 1);
        }

        boolean manyFits(int edition, int skip, int from, int many) {
            return many >= 1 && many <= lines - from && isFree(edition, skip, from, many);
        }

        boolean firstFits(int kind, int many, int first) {
            return isNumber(first) && isNumber(greatestOf(kind, many, first));
        }

        private boolean isFree(int edition, int skip, int from, int many) {
            for (int s = 0; s < stretchesOf(edition); s++) {
                int taken = part(edition, s, FROM);
                boolean isApart = from + many <= taken || taken + part(edition, s, MANY) <= from;
                if (s != skip && !isApart) return false;
            }
            return true;
        }

        // -- citations

        int citedPart(int citation, int which) {
            int place = citation * PARTS + which;
            return place < 0 || place >= citedParts.length ? 0 : citedParts[place];
        }

        private void setCitedPart(int citation, int which, int v) {
            int place = citation * PARTS + which;
            if (place >= 0 && place < citedParts.length) citedParts[place] = v;
        }

        boolean hasCitation(int citation) {
            return citation >= 0 && citation < MOST_CITATIONS && citedPart(citation, CITED_FROM) > 0;
        }

        void putCitation(int citation, int edition, int kind, int from, int to) {
            setCitedPart(citation, CITED_EDITION, edition);
            setCitedPart(citation, CITED_KIND, kind);
            setCitedPart(citation, CITED_FROM, from);
            setCitedPart(citation, CITED_TO, to);
        }

        void removeCitation(int citation) {
            setCitedPart(citation, CITED_FROM, 0);
        }

        int citations() {
            int found = 0;
            for (int citation = 0; citation < MOST_CITATIONS; citation++) {
                if (hasCitation(citation)) found++;
            }
            return found;
        }

        // -- what was seen

        int seen() {
            return seen;
        }

        void putSeen(int number, int line) {
            if (seen < 0 || seen >= seenNumbers.length || seen >= seenLines.length) return;
            seenNumbers[seen] = number;
            seenLines[seen] = line;
            seen++;
        }

        int seenNumber(int i) {
            return i < 0 || i >= seenNumbers.length ? 0 : seenNumbers[i];
        }

        int seenLine(int i) {
            return i < 0 || i >= seenLines.length ? -1 : seenLines[i];
        }
    }

    /** Reads the tape into a draft, so that a fault leaves the work as it is. */
    private static final class Reader {
        // Other tokens are told by their byte.
        private static final int END = -1, FIGURES = -2, NO_TOKEN = -3;
        private static final int MOST_FIGURES = 3;

        private final Tape tape;
        private final Work draft;
        private int at;
        private int token;
        private int place;
        private int value;
        private int faultNumber;

        Reader(Tape tape, Work draft) {
            this.tape = tape;
            this.draft = draft;
        }

        int faultNumber() {
            return faultNumber;
        }

        /** A reading stops at its fault, so the fault is at the latest token. */
        int faultPlace() {
            return place;
        }

        boolean readHead() {
            at = 0;
            if (!expect('w') || !expect(FIGURES)) return false;
            if (value < 1 || value > MOST_LINES) return refuse(2);
            draft.begin(value);
            return expect(';');
        }

        boolean readEditions() {
            // Each turn takes a byte at least, so the end comes within these turns.
            for (int turn = 0; turn <= MOST_BYTES; turn++) {
                step();
                if (token == END) return true;
                if (token == 'e' ? !readEdition() : !readStretch()) return false;
            }
            return refuse(1);
        }

        private boolean readEdition() {
            return draft.putEdition() || refuse(3);
        }

        private boolean readStretch() {
            int kind = kindOf(token);
            int edition = draft.editions() - 1;
            if (kind == 0 || edition < 0) return refuse(1);
            if (draft.stretchesOf(edition) >= MOST_STRETCHES) return refuse(3);
            if (!expect(FIGURES)) return false;
            int from = value;
            if (!draft.fromFits(edition, -1, from)) return refuse(2);
            if (!expect(',') || !expect(FIGURES)) return false;
            int many = value;
            if (!draft.manyFits(edition, -1, from, many)) return refuse(2);
            if (!expect(',') || !expect(FIGURES)) return false;
            int first = value;
            if (!draft.firstFits(kind, many, first)) return refuse(2);
            if (!expect(';')) return false;
            draft.putStretch(edition, kind, from, many, first);
            return true;
        }

        private static int kindOf(int letter) {
            switch (letter) {
                case 'p': return PLAIN;
                case 's': return SPLIT;
                case 'h': return HALVED;
                case 'r': return TURNED;
                case 'b': return BLOCK;
                default: return 0;
            }
        }

        private boolean expect(int wanted) {
            step();
            return token == wanted || refuse(1);
        }

        private boolean refuse(int number) {
            faultNumber = number;
            return false;
        }

        private void step() {
            place = at;
            if (at >= tape.size()) {
                token = END;
                return;
            }
            int b = tape.byteAt(at);
            if (isFigure(b)) {
                stepOverFigures();
                return;
            }
            at++;
            token = b >= 'a' && b <= 'z' || b == ',' || b == ';' ? b : NO_TOKEN;
        }

        private void stepOverFigures() {
            value = 0;
            while (at < tape.size() && isFigure(tape.byteAt(at))) {
                // Of a longer run the value is not asked, and must not overflow.
                if (at - place < MOST_FIGURES) value = value * 10 + tape.byteAt(at) - '0';
                at++;
            }
            token = at - place <= MOST_FIGURES ? FIGURES : NO_TOKEN;
        }

        private static boolean isFigure(int b) {
            return b >= '0' && b <= '9';
        }
    }

    /** The works as they were ahead of the latest acts, in a ring. */
    private static final class Acts {
        private final Work[] ring = new Work[MOST_ACTS];
        private int next;
        private int size;

        int size() {
            return size;
        }

        void forget() {
            size = 0;
        }

        void keep(Work work) {
            if (next < 0 || next >= ring.length) return;
            Work kept = ring[next];
            if (kept == null) {
                kept = new Work();
                ring[next] = kept;
            }
            kept.take(work);
            next = (next + 1) % MOST_ACTS;
            if (size < MOST_ACTS) size++;
        }

        boolean takeBack(Work work) {
            int latest = (next + MOST_ACTS - 1) % MOST_ACTS;
            if (size <= 0 || latest < 0 || latest >= ring.length) return false;
            Work kept = ring[latest];
            if (kept == null) return false;
            work.take(kept);
            next = latest;
            size--;
            return true;
        }
    }

    /** The tape is kept too: an image is of all. */
    private static final class Image {
        private final Work work = new Work();
        private final Tape tape = new Tape();
    }

    /** The numbers that the lines have in one edition: from low to high, 0 if none. */
    private static final class Numbering {
        private final int[] lows = new int[MOST_LINES];
        private final int[] highs = new int[MOST_LINES];
        private int lines;

        void fill(Work work, int edition) {
            lines = work.lines();
            for (int line = 0; line < lows.length && line < highs.length; line++) {
                lows[line] = 0;
                highs[line] = 0;
            }
            for (int s = 0; s < work.stretchesOf(edition); s++) {
                fillStretch(work.part(edition, s, KIND), work.part(edition, s, FROM),
                        work.part(edition, s, MANY), work.part(edition, s, FIRST));
            }
        }

        private void fillStretch(int kind, int from, int many, int first) {
            for (int i = 0; i < many; i++) {
                int line = from + i;
                if (line < 0 || line >= lows.length || line >= highs.length) return;
                lows[line] = lowOf(kind, many, first, i);
                highs[line] = highOf(kind, many, first, i);
            }
        }

        int lines() {
            return lines;
        }

        int low(int line) {
            return line < 0 || line >= lows.length ? 0 : lows[line];
        }

        int high(int line) {
            return line < 0 || line >= highs.length ? 0 : highs[line];
        }

        boolean isNumbered(int line) {
            return low(line) > 0;
        }

        /** Whether the line has one of the numbers from .. to. */
        boolean has(int line, int from, int to) {
            return isNumbered(line) && low(line) <= to && high(line) >= from;
        }

        int numberedLines() {
            int found = 0;
            for (int line = 0; line < lines; line++) {
                if (isNumbered(line)) found++;
            }
            return found;
        }

        void spanLines(int from, int to, Span span) {
            span.clear();
            for (int line = 0; line < lines; line++) {
                if (has(line, from, to)) span.put(line);
            }
        }

        /** Line i of those that have the number. */
        int lineAmong(int number, int i) {
            int found = -1;
            for (int line = 0; line < lines; line++) {
                if (!has(line, number, number)) continue;
                found++;
                if (found == i) return line;
            }
            return NONE;
        }

        boolean beginsBareRow(int line) {
            return !isNumbered(line) && (line == 0 || isNumbered(line - 1));
        }

        int bareLinesFrom(int from) {
            int line = from;
            while (line < lines && !isNumbered(line)) line++;
            return line - from;
        }
    }

    /** How many were put in, the least and the greatest of them. */
    private static final class Span {
        private int size;
        private int least;
        private int greatest;

        void clear() {
            size = 0;
        }

        void put(int v) {
            if (size == 0 || v < least) least = v;
            if (size == 0 || v > greatest) greatest = v;
            size++;
        }

        int size() {
            return size;
        }

        boolean isEmpty() {
            return size == 0;
        }

        int least() {
            return least;
        }

        int greatest() {
            return greatest;
        }

        boolean isSideBySide() {
            return size > 0 && greatest - least + 1 == size;
        }

        /** How many (0), the least (1), the greatest one (2). */
        int answer(int what) {
            if (what == 0) return size;
            if (size == 0) return NONE;
            return what == 1 ? least : greatest;
        }
    }

    /** A set of numbers; marks of an older round do not count, so none need be wiped. */
    private static final class NumberSet {
        private final int[] marks = new int[MOST_NUMBER + 1];
        private final Span span = new Span();
        private int round = 1;

        private void clear() {
            round++;
            span.clear();
        }

        private void put(int n) {
            if (n < 0 || n >= marks.length || marks[n] == round) return;
            marks[n] = round;
            span.put(n);
        }

        private void putNumbers(int line, Numbering of) {
            if (!of.isNumbered(line)) return;
            put(of.low(line));
            put(of.high(line));
        }

        boolean has(int n) {
            return n >= 0 && n < marks.length && marks[n] == round;
        }

        int answer(int what) {
            return span.answer(what);
        }

        /** The numbers in an edition of the lines that have n in another one. */
        void gatherOf(int n, Numbering a, Numbering b) {
            clear();
            for (int line = 0; line < a.lines(); line++) {
                if (a.has(line, n, n)) putNumbers(line, b);
            }
        }

        void gatherOfSet(NumberSet set, Numbering a, Numbering b) {
            clear();
            for (int line = 0; line < a.lines(); line++) {
                if (set.has(a.low(line)) || set.has(a.high(line))) putNumbers(line, b);
            }
        }
    }

    /** For each number of an edition a span of what it has: lines, or numbers in another edition. */
    private static final class Spans {
        private final int[] sizes = new int[MOST_NUMBER + 1];
        private final int[] leasts = new int[MOST_NUMBER + 1];
        private final int[] greatests = new int[MOST_NUMBER + 1];
        private int at;
        private int shiftFirst;
        private int shiftMany;
        private int shiftLow;
        private int shiftHigh;

        private boolean isPlace(int n) {
            return n >= 0 && n < sizes.length && n < leasts.length && n < greatests.length;
        }

        private void clear() {
            for (int n = 0; n < sizes.length; n++) sizes[n] = 0;
        }

        private void put(int n, int v) {
            if (!isPlace(n)) return;
            if (sizes[n] == 0 || v < leasts[n]) leasts[n] = v;
            if (sizes[n] == 0 || v > greatests[n]) greatests[n] = v;
            sizes[n]++;
        }

        void fillWithLines(Numbering of) {
            clear();
            for (int line = 0; line < of.lines(); line++) {
                if (!of.isNumbered(line)) continue;
                for (int n = of.low(line); n <= of.high(line); n++) put(n, line);
            }
        }

        /** What is the same number of several lines is put in several times: sizes say none or some. */
        void fillWithNumbers(Numbering a, Numbering b) {
            clear();
            for (int line = 0; line < a.lines(); line++) {
                if (!a.isNumbered(line) || !b.isNumbered(line)) continue;
                for (int n = a.low(line); n <= a.high(line); n++) {
                    put(n, b.low(line));
                    put(n, b.high(line));
                }
            }
        }

        /** The numbers THROUGH b IN a; back has those of b IN a. */
        void fillThrough(Numbering a, Numbering b, Spans back) {
            clear();
            for (int line = 0; line < a.lines(); line++) {
                if (!a.isNumbered(line) || !b.isNumbered(line)) continue;
                for (int n = a.low(line); n <= a.high(line); n++) {
                    putSpan(n, back, b.low(line));
                    putSpan(n, back, b.high(line));
                }
            }
        }

        private void putSpan(int n, Spans of, int m) {
            if (!of.hasSome(m)) return;
            put(n, of.leasts[m]);
            put(n, of.greatests[m]);
        }

        private boolean hasSome(int n) {
            return isPlace(n) && sizes[n] > 0;
        }

        int numbers() {
            int found = 0;
            for (int n = 1; n <= MOST_NUMBER; n++) {
                if (hasSome(n)) found++;
            }
            return found;
        }

        void spanNumbers(Span span) {
            span.clear();
            for (int n = 1; n <= MOST_NUMBER; n++) {
                if (hasSome(n)) span.put(n);
            }
        }

        int ofSeveral() {
            int found = 0;
            for (int n = 1; n <= MOST_NUMBER; n++) {
                if (hasSome(n) && sizes[n] > 1) found++;
            }
            return found;
        }

        int scattered() {
            int found = 0;
            for (int n = 1; n <= MOST_NUMBER; n++) {
                if (hasSome(n) && greatests[n] - leasts[n] + 1 != sizes[n]) found++;
            }
            return found;
        }

        /** How many numbers have just one (1), more (2). */
        int ofDoubt(int which) {
            int found = 0;
            for (int n = 1; n <= MOST_NUMBER; n++) {
                if (hasSome(n) && (leasts[n] == greatests[n] ? 1 : 2) == which) found++;
            }
            return found;
        }

        void beginShifts() {
            at = 1;
        }

        /** Taking each shift as long as can be, from the least number on, makes them the fewest. */
        boolean nextShift() {
            while (at <= MOST_NUMBER && !hasSome(at)) at++;
            if (at > MOST_NUMBER) return false;
            shiftFirst = at;
            shiftMany = 0;
            shiftLow = -MOST_NUMBER;
            shiftHigh = MOST_NUMBER;
            while (at <= MOST_NUMBER && joinsShift(at)) at++;
            return true;
        }

        private boolean joinsShift(int n) {
            if (!hasSome(n)) return false;
            int low = Math.max(shiftLow, leasts[n] - n);
            int high = Math.min(shiftHigh, greatests[n] - n);
            if (low > high) return false;
            shiftLow = low;
            shiftHigh = high;
            shiftMany++;
            return true;
        }

        int shiftAnswer(int what) {
            if (what == 0) return shiftFirst;
            if (what == 1) return shiftMany;
            return shiftLow > 0 ? shiftLow : Math.min(shiftHigh, 0);
        }
    }
}
