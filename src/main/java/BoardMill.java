/** A mill of circuit boards; ../shared/DOC.md says what each call does. */
public final class BoardMill {
    public static final int NONE = -1;

    // What told() answers; parts of the mill answer a call with minus one of these, or with 0 or more.
    private static final int DID = 0;
    private static final int FULL = 1;
    private static final int NOT_SO = 2;
    private static final int NOT_YET = 3;
    private static final int TAKEN = 4;
    private static final int NOT_DUE = 5;

    private static final int TAPE_ROOM = 4000;
    private static final int TEXTS_READ = 24;
    private static final int TEXTS_GOOD = 4;
    private static final int BOARDS = 6;
    private static final int CUTS = 10;
    private static final int RULES = 30;
    private static final int GREATEST_RULE = 100000;
    private static final int GREATEST_COST = 50;
    private static final int ROUNDS = 20;
    private static final int STEPS = 300;
    private static final long NO_OUTPUT = 1L << 40;

    private static final int DESIGN = 0;
    private static final int SHEET = 1;
    private static final int SYMBOL = 2;
    private static final int UNIT = 3;
    private static final int PIN = 4;
    private static final int ARC = 5;
    private static final int NOTE = 6;
    private static final int WIRE = 7;
    private static final int FIELD = 8;
    private static final int UNKNOWN = 9;

    private static final int TERMINALS = 60;
    private static final int COPIES = 16;
    private static final int NETS = 12;
    private static final int CELLS = 1024;

    private final byte[] tape = new byte[TAPE_ROOM];
    private int tapeLength;
    private final char[] text = new char[TAPE_ROOM];
    private int said;
    private DesignObjects objects;
    private DesignObjects spareObjects;
    private final SheetReader reader;
    private int textsRead;
    private final Drawing drawing;
    private final Board grid;
    private final Router router;
    private final Rows rules;
    private Cut latestCut;
    private Cut spareCut;
    private int cutsMade;
    private Script script;
    private Script spareScript;
    private final Machine machine;
    private final Store store;
    private final Releases releases;

    public BoardMill() {
        objects = new DesignObjects();
        spareObjects = new DesignObjects();
        reader = new SheetReader(spareObjects);
        drawing = new Drawing(objects);
        grid = new Board();
        router = new Router(grid);
        rules = new Rows(RULES);
        latestCut = new Cut();
        spareCut = new Cut();
        script = new Script();
        spareScript = new Script();
        machine = new Machine(script);
        store = new Store();
        releases = new Releases();
    }

    // ---- the tape ----

    public boolean feed(int a, int b, int c, int d, int e) {
        if (tapeLength + 20 > TAPE_ROOM) {
            return happened(-FULL);
        }
        feedWord(a);
        feedWord(b);
        feedWord(c);
        feedWord(d);
        feedWord(e);
        return happened(DID);
    }

    public boolean end(int n) {
        if (n < 0 || n > tapeLength) {
            return happened(-NOT_SO);
        }
        tapeLength = n;
        return happened(DID);
    }

    private void feedWord(int word) {
        for (int shift = 24; shift >= 0 && tapeLength < TAPE_ROOM; shift -= 8) {
            tape[tapeLength] = (byte) (word >>> shift);
            tapeLength++;
        }
    }

    /** Uses up the tape: its characters of a text come into text; how many there are. */
    private int takeText(int room) {
        int length = 0;
        for (int i = 0; i < tapeLength && length < room; i++) {
            int c = tape[i];
            if (c == 10 || (c >= 32 && c <= 126)) {
                text[length] = (char) c;
                length++;
            }
        }
        tapeLength = 0;
        return length;
    }

    private int answer(int outcome) {
        said = outcome < 0 ? -outcome : DID;
        return outcome < 0 ? NONE : outcome;
    }

    private boolean happened(int outcome) {
        return answer(outcome) != NONE;
    }

    private int faultAt(int place) {
        said = NOT_SO;
        return -2 - place;
    }

    // ---- sheets ----

    public int sheets(int form) {
        if (form != 0 && form != 1) {
            return answer(-NOT_SO);
        }
        if (textsRead >= TEXTS_READ || drawing.timesDrawn >= TEXTS_GOOD) {
            return answer(-FULL);
        }
        textsRead++;
        int length = takeText(TAPE_ROOM);
        int fault = reader.faultIn(text, length, form, spareObjects);
        if (fault != NONE) {
            return faultAt(fault);
        }
        DesignObjects before = objects;
        objects = spareObjects;
        spareObjects = before;
        objects.writePage();
        drawing.draw(objects);
        return answer(objects.count);
    }

    public int kind(int k) {
        return objects.kindOf(k);
    }

    public long number(int k, int what) {
        return objects.numberOf(k, what);
    }

    public int written(int i) {
        return objects.pageLetter(i);
    }

    public int nets() {
        return drawing.netCount;
    }

    public int netOf(int terminal, int copy) {
        return drawing.netOfCopy(terminal, copy);
    }

    public int nameOf(int net) {
        return drawing.nameOfNet(net);
    }

    public int remark(int k) {
        return drawing.remarkAt(k);
    }

    // ---- boards ----

    public int board(int x, int y, int layers, long seed) {
        if (drawing.timesDrawn == 0) {
            return answer(-NOT_YET);
        }
        if (grid.number + 1 >= BOARDS) {
            return answer(-FULL);
        }
        grid.begin(within(x, 16), within(y, 16), within(layers, 4), seed);
        grid.takeNets(drawing);
        return answer(grid.number);
    }

    private static int within(int size, int most) {
        return Math.max(1, Math.min(size, most));
    }

    public int put(int terminal, int copy, int layer, int i, int j) {
        return answer(grid.addPad(terminal, copy, layer, i, j));
    }

    public boolean bar(int layer, int i, int j) {
        return happened(grid.barCell(layer, i, j));
    }

    public boolean cost(int layer, int across, int via, int near) {
        if (grid.number == NONE) {
            return happened(-NOT_YET);
        }
        boolean fair = isCost(across) && isCost(via) && isCost(near);
        if (layer < 0 || layer >= grid.layers || !fair) {
            return happened(-NOT_SO);
        }
        grid.setCosts(layer, across, via, near);
        return happened(DID);
    }

    private static boolean isCost(int c) {
        return c >= 0 && c <= GREATEST_COST;
    }

    public int route(int rounds) {
        if (grid.number == NONE) {
            return answer(-NOT_YET);
        }
        if (rounds < 1 || rounds > ROUNDS) {
            return answer(-NOT_SO);
        }
        for (int n = 0; n < rounds && grid.openCount() > 0; n++) {
            router.goRound();
        }
        return answer(grid.openCount());
    }

    public int way(int net, int k, int what) {
        return grid.wayPart(net, k, what);
    }

    public long costOf(int net) {
        return grid.isLed(net) ? grid.nets.at(net, Board.COST) : NONE;
    }

    public int blocking(int net, int k) {
        return grid.blockerOf(net, k);
    }

    // ---- cuts ----

    public int rule(int kind, int a, int b, int v) {
        int greatest = kind == Cut.ENDS ? 0 : GREATEST_RULE;
        boolean fair = kind >= Cut.CLEAR && kind <= Cut.ENDS && isClass(a) && isClass(b);
        if (!fair || v < 0 || v > greatest) {
            return answer(-NOT_SO);
        }
        if (!rules.hasRoom()) {
            return answer(-FULL);
        }
        return answer(rules.add(kind, a, b, v, 0));
    }

    private static boolean isClass(int c) {
        return c >= NONE && c <= 3;
    }

    public int cut() {
        if (grid.number == NONE) {
            return answer(-NOT_YET);
        }
        if (cutsMade >= CUTS) {
            return answer(-FULL);
        }
        spareCut.make(grid, rules);
        if (spareCut.spilled) {
            return answer(-FULL);
        }
        cutsMade++;
        Cut before = latestCut;
        latestCut = spareCut;
        spareCut = before;
        return answer(latestCut.shapes.count);
    }

    public int violations() {
        return cutsMade == 0 ? NONE : latestCut.faultCount;
    }

    public int violation(int k, int what) {
        return cutsMade == 0 ? NONE : latestCut.faultPart(k, what);
    }

    public int copper(int piece) {
        return cutsMade == 0 ? NONE : latestCut.copperOf(piece);
    }

    public int airline(int net, int k, int which) {
        return cutsMade == 0 ? NONE : latestCut.airlineEnd(net, k, which);
    }

    public int shorts() {
        return cutsMade == 0 ? NONE : latestCut.shortCount;
    }

    public boolean exact() {
        return cutsMade > 0 && latestCut.isExact();
    }

    public int drill(int l, int i) {
        return cutsMade == 0 ? NONE : latestCut.drillLetter(l, i);
    }

    public int reread(int l) {
        return cutsMade == 0 ? NONE : latestCut.readBack(l);
    }

    // ---- scripts ----

    public int program() {
        int length = takeText(Script.ROOM);
        int fault = spareScript.faultIn(text, length);
        if (fault != NONE) {
            return faultAt(fault);
        }
        Script before = script;
        script = spareScript;
        spareScript = before;
        machine.take(script);
        return answer(script.statements);
    }

    public boolean facts() {
        if (grid.number == NONE) {
            return happened(-NOT_YET);
        }
        machine.takeFacts(grid, latestCut);
        return happened(DID);
    }

    public int run(int steps) {
        if (steps < 1 || steps > STEPS) {
            return answer(-NOT_SO);
        }
        return answer(machine.go(steps));
    }

    public long output(int i) {
        return i < 0 || i >= machine.outputCount ? NO_OUTPUT : (int) machine.outputs[i];
    }

    public int error(int what) {
        return machine.errorPart(what);
    }

    public int demand(int k) {
        return machine.ask(k);
    }

    // ---- the store ----

    public int save() {
        return answer(store.keep(grid));
    }

    public boolean drop(int edition) {
        return happened(store.dropEdition(edition));
    }

    public int sweep() {
        return answer(store.sweepBlocks());
    }

    public boolean crash(int kept) {
        return happened(store.lose(kept));
    }

    public int reopen() {
        return answer(store.redo());
    }

    public int saved(int edition, int i) {
        return store.byteOf(edition, i);
    }

    public int load(int edition) {
        return answer(store.putBack(edition, grid));
    }

    // ---- releases ----

    public int release() {
        if (cutsMade == 0) {
            return answer(-NOT_YET);
        }
        boolean due = latestCut.isExact() && machine.allDemandsHold();
        return answer(releases.add(latestCut, due));
    }

    public int approve(int release, int person, int role) {
        return answer(releases.takeApproval(release, person, role));
    }

    public boolean withdraw(int release) {
        return happened(releases.takeBack(release));
    }

    public int serial(int release) {
        return answer(releases.nextSerial(release));
    }

    public int root(int release, int i) {
        return releases.rootByte(release, i);
    }

    public int proof(int release, int leaf, int i) {
        return releases.proofByte(release, leaf, i);
    }

    public int check(int release, int leaf, int place, int mask) {
        return releases.checkHolds(release, leaf, place, mask);
    }

    public int told() {
        return said;
    }

    private static void sortRising(int[] row, int count) {
        for (int gap = count / 2; gap > 0; gap /= 2) {
            for (int i = gap; i < count; i++) {
                int value = row[i];
                int at = i;
                for (; at >= gap && row[at - gap] > value; at -= gap) {
                    row[at] = row[at - gap];
                }
                row[at] = value;
            }
        }
    }

    /** Rows of up to six numbers, in a room that is made once; what is read outside of it is NONE. */
    private static final class Rows {
        private static final int WIDTH = 6;

        private final int[] cells;
        private final int room;
        int count;

        Rows(int room) {
            this.room = room;
            cells = new int[room * WIDTH];
        }

        boolean hasRoom() {
            return count < room;
        }

        /** The number of the new row; NONE when there is no room for it. */
        int add(int a, int b, int c, int d, int e) {
            if (count >= room) {
                return NONE;
            }
            int from = count * WIDTH;
            cells[from] = a;
            cells[from + 1] = b;
            cells[from + 2] = c;
            cells[from + 3] = d;
            cells[from + 4] = e;
            cells[from + 5] = 0;
            count++;
            return count - 1;
        }

        int at(int row, int column) {
            boolean there = row >= 0 && row < count && column >= 0 && column < WIDTH;
            return there ? cells[row * WIDTH + column] : NONE;
        }

        void set(int row, int column, int value) {
            if (row >= 0 && row < count && column >= 0 && column < WIDTH) {
                cells[row * WIDTH + column] = value;
            }
        }
    }

    /** The objects of one text, and how they are written. */
    private static final class DesignObjects {
        static final int ROOM = 200;
        static final int KEPT_ROOM = 2000;
        private static final int NUMBERS = 5;
        private static final int TEXTS = 2;
        private static final int CHARS = 4000;
        // 4,000 characters, what the fields of old versions and line feeds add, 100 blanks ahead of each object
        private static final int PAGE = 26000;
        private static final long NANOMETRES = 1000000;

        int count;
        int form;
        int keptCount;
        final int[] kinds = new int[ROOM];
        final int[] parents = new int[ROOM];
        final int[] depths = new int[ROOM];
        final long[] numbers = new long[ROOM * NUMBERS];
        private final int[] textStarts = new int[ROOM * TEXTS];
        private final int[] textLengths = new int[ROOM * TEXTS];
        private final char[] chars = new char[CHARS];
        private int charCount;
        private final char[] page = new char[PAGE];
        private int pageLength;

        /** The fields of a kind: T a text, N a length, all others whole numbers. */
        static String fieldsOf(int kind) {
            switch (kind) {
                case DESIGN: return "V";
                case SHEET: return "PT";
                case SYMBOL: return "NNT";
                case UNIT: return "U";
                case PIN: return "NNTK";
                case ARC: return "NNNAA";
                case NOTE: return "NNTN";
                case WIRE: return "NNNN";
                case FIELD: return "TT";
                default: return "";
            }
        }

        static String wordOf(int kind) {
            switch (kind) {
                case DESIGN: return "design";
                case SHEET: return "sheet";
                case SYMBOL: return "symbol";
                case UNIT: return "unit";
                case PIN: return "pin";
                case ARC: return "arc";
                case NOTE: return "note";
                case WIRE: return "wire";
                case FIELD: return "field";
                default: return "";
            }
        }

        void clear(int newForm) {
            form = newForm;
            count = 0;
            keptCount = 0;
            charCount = 0;
        }

        /** A new object without values; the caller has seen that there is room. */
        int add(int kind, int parent) {
            int k = count;
            if (k >= ROOM) {
                return NONE;
            }
            count++;
            kinds[k] = kind;
            parents[k] = parent;
            depths[k] = parent < 0 || parent >= k ? 0 : depths[parent] + 1;
            for (int n = 0; n < NUMBERS; n++) {
                numbers[k * NUMBERS + n] = 0;
            }
            if (kind == NOTE) {
                setNumber(k, 2, 1270000);
            }
            for (int n = 0; n < TEXTS; n++) {
                textStarts[k * TEXTS + n] = charCount;
                textLengths[k * TEXTS + n] = 0;
            }
            return k;
        }

        private boolean isObject(int k) {
            return k >= 0 && k < count;
        }

        void setNumber(int k, int what, long value) {
            if (isObject(k) && what >= 0 && what < NUMBERS) {
                numbers[k * NUMBERS + what] = value;
            }
        }

        void startText(int k, int which) {
            if (isObject(k) && which >= 0 && which < TEXTS) {
                textStarts[k * TEXTS + which] = charCount;
            }
        }

        void addLetter(int k, int which, char c) {
            if (isObject(k) && which >= 0 && which < TEXTS && charCount < CHARS) {
                chars[charCount] = c;
                charCount++;
                textLengths[k * TEXTS + which]++;
            }
        }

        /** Keeps the characters of an UNKNOWN. */
        void keepLetters(int k, char[] from, int start, int end) {
            startText(k, 0);
            for (int i = start; i < end && i < from.length; i++) {
                addLetter(k, 0, from[i]);
            }
            keptCount += end - start;
        }

        int kindOf(int k) {
            return isObject(k) ? kinds[k] : NONE;
        }

        int parentOf(int k) {
            return isObject(k) ? parents[k] : NONE;
        }

        long numberOf(int k, int what) {
            return what >= 0 && what < NUMBERS && isObject(k) ? numbers[k * NUMBERS + what] : 0;
        }

        int placeOf(int k, int what) {
            return (int) numberOf(k, what);
        }

        int textLength(int k, int which) {
            return isObject(k) ? textLengths[k * TEXTS + which] : 0;
        }

        /** A character of a text that is there. */
        private char letterIn(int k, int which, int i) {
            return chars[textStarts[k * TEXTS + which] + i];
        }

        /** A character of a text, or NONE behind it. */
        int textLetter(int k, int which, int i) {
            return i >= 0 && i < textLength(k, which) ? letterIn(k, which, i) : NONE;
        }

        boolean textIs(int k, int which, String word) {
            boolean same = textLength(k, which) == word.length();
            for (int i = 0; i < word.length() && same; i++) {
                same = letterIn(k, which, i) == word.charAt(i);
            }
            return same;
        }

        boolean sameText(int k, int which, int other, int otherWhich) {
            boolean same = textLength(k, which) == textLength(other, otherWhich);
            for (int i = 0; i < textLength(k, which) && same; i++) {
                same = letterIn(k, which, i) == letterIn(other, otherWhich, i);
            }
            return same;
        }

        int pageLetter(int i) {
            return i >= 0 && i < pageLength ? page[i] : NONE;
        }

        void writePage() {
            pageLength = 0;
            if (form == 0) {
                writeLists();
            } else {
                writeLines();
            }
        }

        private void writeLists() {
            int open = 0;
            for (int k = 0; k < count; k++) {
                for (; open > depths[k]; open--) {
                    emit(')');
                }
                if (k > 0) {
                    emit('\n');
                    emitTimes(' ', depths[k]);
                }
                if (kinds[k] == UNKNOWN) {
                    emitText(k, 0);
                } else {
                    emit('(');
                    emitObject(k);
                    open++;
                }
            }
            emitTimes(')', open);
            emit('\n');
        }

        private void writeLines() {
            for (int k = 0; k < count; k++) {
                emitTimes('.', depths[k]);
                if (kinds[k] == UNKNOWN) {
                    emitText(k, 0);
                } else {
                    emitObject(k);
                }
                emit('\n');
            }
        }

        private void emitObject(int k) {
            emitWord(wordOf(kinds[k]));
            String fields = fieldsOf(kinds[k]);
            int textsDone = 0;
            int numbersDone = 0;
            for (int f = 0; f < fields.length(); f++) {
                emit(' ');
                char field = fields.charAt(f);
                if (field == 'V') {
                    emit('3');
                } else if (field == 'T') {
                    emitQuoted(k, textsDone);
                    textsDone++;
                } else {
                    emitNumber(numberOf(k, numbersDone), field == 'N');
                    numbersDone++;
                }
            }
        }

        private void emitNumber(long value, boolean isLength) {
            if (value < 0) {
                emit('-');
            }
            long size = Math.abs(value);
            if (isLength) {
                emitWhole(size / NANOMETRES);
                emitFraction(size % NANOMETRES);
            } else {
                emitWhole(size);
            }
        }

        private void emitWhole(long value) {
            boolean begun = false;
            for (long unit = 1000; unit > 0; unit /= 10) {
                begun = begun || value >= unit || unit == 1;
                if (begun) {
                    emit((char) ('0' + value / unit % 10));
                }
            }
        }

        private void emitFraction(long rest) {
            if (rest > 0) {
                emit('.');
            }
            long left = rest;
            for (long unit = NANOMETRES / 10; unit > 0 && left > 0; unit /= 10) {
                emit((char) ('0' + left / unit));
                left %= unit;
            }
        }

        private void emitQuoted(int k, int which) {
            emit('"');
            for (int i = 0; i < textLength(k, which); i++) {
                char c = letterIn(k, which, i);
                if (c == '"' || c == '\\') {
                    emit('\\');
                }
                emit(c);
            }
            emit('"');
        }

        private void emitText(int k, int which) {
            for (int i = 0; i < textLength(k, which); i++) {
                emit(letterIn(k, which, i));
            }
        }

        private void emitWord(String word) {
            for (int i = 0; i < word.length(); i++) {
                emit(word.charAt(i));
            }
        }

        private void emitTimes(char c, int times) {
            for (int n = 0; n < times; n++) {
                emit(c);
            }
        }

        private void emit(char c) {
            if (pageLength < PAGE) {
                page[pageLength] = c;
                pageLength++;
            }
        }
    }

    /** Reads a text of sheets; the first fault ends it. */
    private static final class SheetReader {
        private static final int MOST_OPEN = 100;
        private static final int TEXT_LENGTH = 40;
        private static final long FARTHEST = 1000000000;
        private static final long[] TENS = {1, 10, 100, 1000, 10000, 100000, 1000000};
        // for each kind the kinds that it may be in, a bit each
        private static final int[] HOLDERS = {0, 3, 2, 4, 8, 8, 10, 2, 6, 15};

        private char[] text;
        private int length;
        private int place;
        private int fault;
        private int open;
        private int version;
        private boolean nested;
        private DesignObjects objects;

        SheetReader(DesignObjects objects) {
            this.objects = objects;
            text = new char[0];
        }

        /** The place of the text's fault, or NONE. */
        int faultIn(char[] newText, int newLength, int form, DesignObjects into) {
            text = newText;
            length = Math.min(newLength, newText.length);
            place = 0;
            fault = NONE;
            open = 0;
            version = 1;
            nested = form == 0;
            objects = into;
            objects.clear(form);
            if (nested) {
                readLists();
            } else {
                readLines();
            }
            return fault;
        }

        private void fail(int at) {
            if (fault == NONE) {
                fault = at;
            }
        }

        /** The character that is next, or NONE at the text's end. */
        private int peek() {
            return place < length ? text[place] : NONE;
        }

        private void readLists() {
            skipBlanks();
            if (peek() != '(') {
                fail(place);
            }
            int parent = NONE;
            for (int n = 0; n <= length && fault == NONE; n++) {
                parent = closeLists(readList(parent));
                if (parent == NONE) {
                    break;
                }
            }
            skipBlanks();
            if (place < length) {
                fail(place);
            }
        }

        /** Reads from a ( to the end of the values; the object that is open then. */
        private int readList(int parent) {
            int opening = place;
            if (open >= MOST_OPEN) {
                fail(place);
                return parent;
            }
            open++;
            place++;
            skipBlanks();
            int nameAt = place;
            int k = readName(parent);
            if (k == NONE) {
                return parent;
            }
            if (objects.kindOf(k) == UNKNOWN) {
                keepList(k, opening);
                return parent;
            }
            readValues(k);
            return k;
        }

        /** Reads each ) up to the next (; the object that is open then, NONE when none is. */
        private int closeLists(int from) {
            int k = from;
            for (int n = 0; n <= length && fault == NONE && k != NONE; n++) {
                skipBlanks();
                if (peek() == '(') {
                    return k;
                }
                if (peek() == ')') {
                    place++;
                    open--;
                    k = objects.parentOf(k);
                } else {
                    fail(place);
                }
            }
            return k;
        }

        private void readLines() {
            int last = NONE;
            for (int n = 0; n <= length && fault == NONE && (n == 0 || place < length); n++) {
                last = readLine(last);
            }
        }

        /** Reads a line behind the last object that is no UNKNOWN; that one as it is then. */
        private int readLine(int last) {
            int most = last == NONE ? 0 : objects.depths[last] + 1;
            int dots = 0;
            for (; dots < most && peek() == '.'; dots++) {
                place++;
            }
            if (last != NONE && dots == 0) {
                fail(place);
                return last;
            }
            int nameAt = place;
            int k = readName(ancestorAt(last, dots - 1));
            if (k == NONE) {
                return last;
            }
            if (objects.kindOf(k) == UNKNOWN) {
                keepLines(k, nameAt, dots);
                return last;
            }
            readValues(k);
            if (fault == NONE && peek() != '\n') {
                fail(place);
            }
            place++;
            return k;
        }

        private int ancestorAt(int from, int depth) {
            int k = from;
            for (int n = 0; n < DesignObjects.ROOM && k != NONE && objects.depths[k] > depth; n++) {
                k = objects.parentOf(k);
            }
            return k;
        }

        /** Reads a NAME and adds its object; NONE when there is a fault. */
        private int readName(int parent) {
            int nameAt = place;
            while (place < length && text[place] >= 'a' && text[place] <= 'z') {
                place++;
            }
            if (place == nameAt) {
                fail(place);
                return NONE;
            }
            int kind = kindNamed(nameAt, place);
            if (!mayBeIn(kind, parent) || objects.count >= DesignObjects.ROOM) {
                fail(nameAt);
                return NONE;
            }
            return objects.add(kind, parent);
        }

        private int kindNamed(int from, int to) {
            for (int kind = DESIGN; kind < UNKNOWN; kind++) {
                String word = DesignObjects.wordOf(kind);
                boolean same = word.length() == to - from;
                for (int i = 0; i < word.length() && same; i++) {
                    same = text[from + i] == word.charAt(i);
                }
                if (same) {
                    return kind;
                }
            }
            return UNKNOWN;
        }

        private boolean mayBeIn(int kind, int parent) {
            if (parent == NONE) {
                return kind == DESIGN;
            }
            return (HOLDERS[kind] >> objects.kindOf(parent) & 1) != 0;
        }

        private void readValues(int k) {
            int kind = objects.kindOf(k);
            String fields = DesignObjects.fieldsOf(kind);
            int count = fields.length();
            if ((kind == PIN && version < 2) || (kind == NOTE && version < 3)) {
                count--;
            }
            int textsDone = 0;
            int numbersDone = 0;
            for (int f = 0; f < count && fault == NONE; f++) {
                readGap();
                if (fault != NONE) {
                    return;
                }
                if (fields.charAt(f) == 'T') {
                    readText(k, textsDone);
                    textsDone++;
                } else {
                    readNumber(k, fields.charAt(f), numbersDone);
                    numbersDone++;
                }
            }
        }

        private void readNumber(int k, char field, int what) {
            int valueAt = place;
            boolean minus = peek() == '-';
            if (minus) {
                place++;
            }
            long value = takeDigits(4);
            if (field == 'N') {
                value *= TENS[6];
            }
            if (field == 'N' && fault == NONE && peek() == '.') {
                place++;
                int from = place;
                long part = takeDigits(6);
                value += part * TENS[6 - (place - from)];
            }
            value = minus ? -value : value;
            if (fault == NONE && (value < least(field) || value > greatest(field))) {
                fail(valueAt);
            } else if (field == 'V') {
                version = (int) value;
            } else {
                objects.setNumber(k, what, value);
            }
        }

        private static long least(char field) {
            switch (field) {
                case 'V': return 1;
                case 'U': return 1;
                case 'A': return -360;
                case 'N': return -FARTHEST;
                default: return 0;
            }
        }

        private static long greatest(char field) {
            switch (field) {
                case 'V': return 3;
                case 'K': return 9;
                case 'A': return 360;
                case 'N': return FARTHEST;
                default: return 9999;
            }
        }

        /** One to so many digits; one more is a fault. */
        private long takeDigits(int most) {
            long value = 0;
            int digits = 0;
            for (; digits < most && isDigit(peek()); digits++) {
                value = value * 10 + peek() - '0';
                place++;
            }
            if (digits == 0 || isDigit(peek())) {
                fail(place);
            }
            return value;
        }

        private static boolean isDigit(int c) {
            return c >= '0' && c <= '9';
        }

        private void readText(int k, int which) {
            if (peek() != '"') {
                fail(place);
                return;
            }
            place++;
            objects.startText(k, which);
            for (int letters = 0; letters <= TEXT_LENGTH && fault == NONE; letters++) {
                if (peek() == '"') {
                    place++;
                    return;
                }
                if (letters == TEXT_LENGTH || peek() == '\n') {
                    fail(place);
                }
                skipEscape();
                if (fault == NONE && place < length) {
                    objects.addLetter(k, which, text[place]);
                    place++;
                } else {
                    fail(place);
                }
            }
        }

        /** Of a \ and what stands behind it the first one is read. */
        private void skipEscape() {
            if (fault == NONE && peek() == '\\') {
                place++;
                if (peek() != '"' && peek() != '\\') {
                    fail(place);
                }
            }
        }

        private void readGap() {
            if (peek() != ' ' && !(nested && peek() == '\n')) {
                fail(place);
                return;
            }
            place++;
            if (nested) {
                skipBlanks();
            }
        }

        private void skipBlanks() {
            while (place < length && (text[place] == ' ' || text[place] == '\n')) {
                place++;
            }
        }

        /** The place of the first character for which there is no room, when one is kept from here on. */
        private int roomEnd(int from) {
            return from + DesignObjects.KEPT_ROOM - objects.keptCount;
        }

        private void keepList(int k, int opening) {
            int limit = roomEnd(opening);
            int around = open - 1;
            if (place > limit) {
                fail(limit);
            }
            for (int n = 0; n <= length && fault == NONE && open > around; n++) {
                if (place >= length || place >= limit) {
                    fail(place);
                } else if (text[place] == '"') {
                    skipQuoted(limit);
                } else {
                    keepBracket();
                    place++;
                }
            }
            if (fault == NONE) {
                objects.keepLetters(k, text, opening, place);
            }
        }

        private void keepBracket() {
            if (peek() == ')') {
                open--;
            } else if (peek() == '(') {
                if (open >= MOST_OPEN) {
                    fail(place);
                }
                open++;
            }
        }

        private void skipQuoted(int limit) {
            place++;
            boolean ended = false;
            for (int n = 0; n <= length && fault == NONE && !ended; n++) {
                ended = peek() == '"';
                if (place < limit) {
                    skipEscape();
                }
                if (place >= length || place >= limit) {
                    fail(place);
                }
                place++;
            }
        }

        private void keepLines(int k, int nameAt, int dots) {
            int limit = roomEnd(nameAt);
            if (place > limit) {
                fail(limit);
            }
            for (int n = 0; n <= length && fault == NONE; n++) {
                if (peek() == '\n' && !isDeeper(place + 1, dots)) {
                    objects.keepLetters(k, text, nameAt, place);
                    place++;
                    return;
                }
                if (place >= length || place >= limit) {
                    fail(place);
                }
                place++;
            }
        }

        private boolean isDeeper(int lineAt, int dots) {
            boolean deeper = true;
            for (int n = 0; n <= dots && deeper; n++) {
                deeper = lineAt + n < length && text[lineAt + n] == '.';
            }
            return deeper;
        }
    }

    /** What the sheets of a design join. */
    private static final class Drawing {
        private static final int SHEETS = 16;
        private static final int WIRES = 100;
        private static final int LABELS = 60;
        private static final int JUNCTIONS = 50;
        private static final int PORTS = 30;
        private static final int NAMES = 1000;
        private static final int NAMES_FOR_ALL = 900;
        private static final int ISOLATED = 100000000;
        private static final long FARTHEST = 1000000000;
        // each thing has a node for each copy; the terminals' come first, so that the least node of a net is its first terminal
        private static final int LABEL_NODES = TERMINALS * COPIES;
        private static final int WIRE_NODES = LABEL_NODES + LABELS * COPIES;
        private static final int NAME_NODES = WIRE_NODES + WIRES * COPIES;
        private static final int NODES = NAME_NODES + SHEETS * NAMES;

        private DesignObjects objects;
        private final int[] sheetOfObject = new int[DesignObjects.ROOM];
        private final Rows sheetRows = new Rows(SHEETS); // object, parent, original, copy, how many copies
        private final int[] copySheets = new int[SHEETS * COPIES];
        private final Rows wires = new Rows(WIRES); // sheet, x, y, x, y
        private final Rows junctions = new Rows(JUNCTIONS); // sheet, x, y
        private final Rows labels = new Rows(LABELS); // sheet, x, y, name
        private final Rows ports = new Rows(PORTS); // label, sheet
        private final Rows terminals = new Rows(TERMINALS); // sheet, x, y, symbol
        private final int[] chain = new int[NODES];
        private final int[] netOfNode = new int[TERMINALS * COPIES];
        private final int[] namesOfNets = new int[TERMINALS * COPIES];
        private final int[] remarks = new int[LABELS * COPIES + LABELS];
        private int remarkCount;
        int netCount;
        int timesDrawn;

        Drawing(DesignObjects objects) {
            this.objects = objects;
        }

        int netOfCopy(int terminal, int copy) {
            boolean there = terminal >= 0 && terminal < terminals.count;
            return there && copy >= 0 && copy < copiesOf(terminals.at(terminal, 0))
                ? netOfNode[terminal * COPIES + copy] : NONE;
        }

        int nameOfNet(int net) {
            return net >= 0 && net < netCount ? namesOfNets[net] : -1000;
        }

        int remarkAt(int k) {
            return k >= 0 && k < remarkCount ? remarks[k] : NONE;
        }

        void draw(DesignObjects newObjects) {
            objects = newObjects;
            timesDrawn++;
            findSheets();
            gather();
            joinAll();
            numberNets();
            collectRemarks();
        }

        private void findSheets() {
            sheetRows.count = 0;
            for (int k = 0; k < objects.count; k++) {
                sheetOfObject[k] = NONE;
                if (objects.kindOf(k) == SHEET && sheetRows.hasRoom()) {
                    int s = sheetRows.add(k, sheetOf(objects.parentOf(k)), NONE, 0, 1);
                    sheetOfObject[k] = s;
                    copySheets[s * COPIES] = s;
                    makeRepeat(s, k);
                }
            }
        }

        private int sheetOf(int object) {
            return object >= 0 && object < objects.count ? sheetOfObject[object] : NONE;
        }

        private int copiesOf(int sheet) {
            return sheetRows.at(sheet, 4);
        }

        private int sheetOfCopy(int sheet, int copy) {
            return copySheets[sheet * COPIES + copy];
        }

        private void makeRepeat(int s, int object) {
            int drawn = originalOf(s, object);
            sheetRows.set(s, 2, drawn == NONE ? s : drawn);
            if (drawn != NONE) {
                int copy = copiesOf(drawn);
                copySheets[drawn * COPIES + copy] = s;
                sheetRows.set(drawn, 4, copy + 1);
                sheetRows.set(s, 3, copy);
            }
        }

        /** The drawn sheet ahead that a sheet repeats, or NONE. */
        private int originalOf(int s, int object) {
            int field = NONE;
            for (int k = object + 1; k < objects.count && field == NONE; k++) {
                boolean mine = objects.parentOf(k) == object && objects.kindOf(k) == FIELD;
                field = mine && objects.textIs(k, 0, "of") ? k : NONE;
            }
            for (int d = 0; d < s && field != NONE; d++) {
                if (isDrawn(d) && objects.sameText(field, 1, sheetRows.at(d, 0), 0)) {
                    return d;
                }
            }
            return NONE;
        }

        private boolean isDrawn(int sheet) {
            return sheet != NONE && sheetRows.at(sheet, 2) == sheet;
        }

        private void gather() {
            wires.count = 0;
            junctions.count = 0;
            labels.count = 0;
            ports.count = 0;
            terminals.count = 0;
            for (int k = 0; k < objects.count; k++) {
                int kind = objects.kindOf(k);
                int parent = objects.parentOf(k);
                if (kind == WIRE && isDrawn(sheetOf(parent))) {
                    addWire(k, sheetOf(parent));
                } else if (kind == NOTE && isDrawn(sheetOf(parent))) {
                    addNote(k, sheetOf(parent));
                } else if (kind == PIN) {
                    addPin(k, objects.parentOf(parent));
                }
            }
        }

        private void addWire(int k, int sheet) {
            int x = objects.placeOf(k, 0);
            int y = objects.placeOf(k, 1);
            int otherX = objects.placeOf(k, 2);
            int otherY = objects.placeOf(k, 3);
            if (x != otherX || y != otherY) {
                wires.add(sheet, x, y, otherX, otherY);
            }
        }

        private void addNote(int k, int sheet) {
            int x = objects.placeOf(k, 0);
            int y = objects.placeOf(k, 1);
            if (objects.textIs(k, 0, "+")) {
                if (!hasPlace(junctions, sheet, x, y)) {
                    junctions.add(sheet, x, y, 0, 0);
                }
                return;
            }
            boolean port = objects.textLetter(k, 0, 0) == '^';
            int name = nameIn(k, port ? 1 : 0);
            if (name == NONE) {
                return;
            }
            int label = labels.add(sheet, x, y, name, 0);
            if (port && label != NONE) {
                addPorts(label, sheet);
            }
        }

        /** The one to three digits that are all of a note's text from there on, or NONE. */
        private int nameIn(int k, int from) {
            int end = objects.textLength(k, 0);
            if (end - from < 1 || end - from > 3) {
                return NONE;
            }
            int name = 0;
            for (int i = from; i < end && name != NONE; i++) {
                int c = objects.textLetter(k, 0, i);
                name = c >= '0' && c <= '9' ? name * 10 + c - '0' : NONE;
            }
            return name;
        }

        private void addPorts(int label, int sheet) {
            for (int copy = 0; copy < copiesOf(sheet); copy++) {
                int s = sheetOfCopy(sheet, copy);
                if (sheetRows.at(s, 1) != NONE) {
                    ports.add(label, s, 0, 0, 0);
                }
            }
        }

        private void addPin(int k, int symbol) {
            int sheet = sheetOf(objects.parentOf(symbol));
            if (!isDrawn(sheet)) {
                return;
            }
            long x = objects.numberOf(symbol, 0) + objects.numberOf(k, 0);
            long y = objects.numberOf(symbol, 1) + objects.numberOf(k, 1);
            boolean free = Math.abs(x) <= FARTHEST && Math.abs(y) <= FARTHEST;
            for (int t = 0; t < terminals.count && free; t++) {
                free = terminals.at(t, 3) != symbol || terminals.at(t, 1) != x || terminals.at(t, 2) != y;
            }
            if (free) {
                terminals.add(sheet, (int) x, (int) y, symbol, 0);
            }
        }

        private static boolean hasPlace(Rows things, int sheet, int x, int y) {
            boolean found = false;
            for (int n = 0; n < things.count && !found; n++) {
                found = isAt(things, n, sheet, x, y);
            }
            return found;
        }

        private static boolean isAt(Rows things, int n, int sheet, int x, int y) {
            return things.at(n, 0) == sheet && things.at(n, 1) == x && things.at(n, 2) == y;
        }

        private void joinAll() {
            for (int node = 0; node < NODES; node++) {
                chain[node] = node;
            }
            joinWires();
            for (int j = 0; j < junctions.count; j++) {
                joinAtJunction(j);
            }
            joinToWires(labels, LABEL_NODES);
            joinToWires(terminals, 0);
            joinSamePlaces(labels, LABEL_NODES, labels, LABEL_NODES);
            joinSamePlaces(labels, LABEL_NODES, terminals, 0);
            joinSamePlaces(terminals, 0, terminals, 0);
            joinNames();
            joinPorts();
        }

        private void joinWires() {
            for (int a = 0; a < wires.count; a++) {
                for (int b = a + 1; b < wires.count; b++) {
                    boolean common = isAt(wires, b, wires.at(a, 0), wires.at(a, 1), wires.at(a, 2))
                        || isAt(wires, b, wires.at(a, 0), wires.at(a, 3), wires.at(a, 4))
                        || endsAt(b, wires.at(a, 0), wires.at(a, 1), wires.at(a, 2))
                        || endsAt(b, wires.at(a, 0), wires.at(a, 3), wires.at(a, 4));
                    if (common) {
                        joinWirePair(a, b);
                    }
                }
            }
        }

        private boolean endsAt(int wire, int sheet, int x, int y) {
            return wires.at(wire, 0) == sheet && wires.at(wire, 3) == x && wires.at(wire, 4) == y;
        }

        private void joinWirePair(int a, int b) {
            joinCopies(WIRE_NODES + a * COPIES, WIRE_NODES + b * COPIES, wires.at(a, 0));
        }

        private void joinAtJunction(int j) {
            int first = NONE;
            for (int w = 0; w < wires.count; w++) {
                if (goesThrough(w, junctions.at(j, 0), junctions.at(j, 1), junctions.at(j, 2))) {
                    if (first == NONE) {
                        first = w;
                    }
                    joinWirePair(first, w);
                }
            }
        }

        private boolean goesThrough(int wire, int sheet, int x, int y) {
            if (wires.at(wire, 0) != sheet) {
                return false;
            }
            long fromX = wires.at(wire, 1);
            long fromY = wires.at(wire, 2);
            long toX = wires.at(wire, 3);
            long toY = wires.at(wire, 4);
            return x >= Math.min(fromX, toX) && x <= Math.max(fromX, toX)
                && y >= Math.min(fromY, toY) && y <= Math.max(fromY, toY)
                && (toX - fromX) * (y - fromY) == (toY - fromY) * (x - fromX);
        }

        private void joinToWires(Rows things, int firstNode) {
            for (int n = 0; n < things.count; n++) {
                for (int w = 0; w < wires.count; w++) {
                    if (goesThrough(w, things.at(n, 0), things.at(n, 1), things.at(n, 2))) {
                        joinCopies(firstNode + n * COPIES, WIRE_NODES + w * COPIES, things.at(n, 0));
                    }
                }
            }
        }

        private void joinSamePlaces(Rows things, int firstNode, Rows others, int firstOther) {
            for (int n = 0; n < things.count; n++) {
                for (int m = 0; m < others.count; m++) {
                    if (isAt(others, m, things.at(n, 0), things.at(n, 1), things.at(n, 2))) {
                        joinCopies(firstNode + n * COPIES, firstOther + m * COPIES, things.at(n, 0));
                    }
                }
            }
        }

        private void joinNames() {
            for (int l = 0; l < labels.count; l++) {
                int sheet = labels.at(l, 0);
                for (int copy = 0; copy < copiesOf(sheet); copy++) {
                    join(labelNode(l, copy), nameNode(sheetOfCopy(sheet, copy), labels.at(l, 3)));
                }
            }
        }

        private void joinPorts() {
            for (int p = 0; p < ports.count; p++) {
                int label = ports.at(p, 0);
                int sheet = ports.at(p, 1);
                int parent = sheetRows.at(sheet, 1);
                join(labelNode(label, sheetRows.at(sheet, 3)), nameNode(parent, labels.at(label, 3)));
            }
        }

        private static int labelNode(int label, int copy) {
            return LABEL_NODES + label * COPIES + copy;
        }

        private static int nameNode(int sheet, int name) {
            return NAME_NODES + (name >= NAMES_FOR_ALL ? 0 : sheet * NAMES) + name;
        }

        private void joinCopies(int node, int other, int sheet) {
            for (int copy = 0; copy < copiesOf(sheet); copy++) {
                join(node + copy, other + copy);
            }
        }

        private void join(int node, int other) {
            int root = rootOf(node);
            int otherRoot = rootOf(other);
            chain[Math.max(root, otherRoot)] = Math.min(root, otherRoot);
        }

        private int rootOf(int node) {
            int at = node;
            for (int n = 0; n < NODES && chain[at] != at; n++) {
                chain[at] = chain[chain[at]];
                at = chain[at];
            }
            return at;
        }

        private void numberNets() {
            netCount = 0;
            for (int t = 0; t < terminals.count; t++) {
                for (int copy = 0; copy < copiesOf(terminals.at(t, 0)); copy++) {
                    int node = t * COPIES + copy;
                    int root = rootOf(node);
                    if (root == node) {
                        namesOfNets[netCount] = -1 - t;
                        netOfNode[node] = netCount;
                        netCount++;
                    } else {
                        netOfNode[node] = netOfNode[root];
                    }
                }
            }
        }

        private void collectRemarks() {
            remarkCount = 0;
            int found = 0;
            for (int l = 0; l < labels.count; l++) {
                for (int copy = 0; copy < copiesOf(labels.at(l, 0)); copy++) {
                    int root = rootOf(labelNode(l, copy));
                    if (root < LABEL_NODES) {
                        remarks[found] = netOfNode[root] * NAMES + labels.at(l, 3);
                        found++;
                    }
                }
            }
            sortRising(remarks, found);
            takeNames(found);
            for (int l = 0; l < labels.count; l++) {
                if (isIsolated(l)) {
                    remarks[remarkCount] = ISOLATED + l;
                    remarkCount++;
                }
            }
        }

        /** Of the sorted pairs of net and name the first one of a net is its name; the others stay as remarks. */
        private void takeNames(int found) {
            int lastPair = NONE;
            for (int n = 0; n < found; n++) {
                int pair = remarks[n];
                int net = pair / NAMES;
                if (namesOfNets[net] < 0) {
                    namesOfNets[net] = pair % NAMES;
                } else if (pair != lastPair) {
                    remarks[remarkCount] = pair;
                    remarkCount++;
                }
                lastPair = pair;
            }
        }

        private boolean isIsolated(int label) {
            int sheet = labels.at(label, 0);
            int x = labels.at(label, 1);
            int y = labels.at(label, 2);
            boolean alone = !hasPlace(terminals, sheet, x, y);
            for (int w = 0; w < wires.count && alone; w++) {
                alone = !goesThrough(w, sheet, x, y);
            }
            return alone;
        }
    }

    /** The grid of the latest board, its pads, and what its route nets hold. */
    private static final class Board {
        private static final int PADS = 40;
        private static final int PADS_OF_NET = 5;
        static final int SIDES = 6;
        // the columns of nets
        static final int SHEET_NET = 0;
        static final int PAD_COUNT = 1;
        static final int LED = 2;
        static final int COST = 3;
        static final int RIPPED = 4;
        static final int BLOCKERS = 5;

        int number = NONE;
        int width = 1;
        int height = 1;
        int layers = 1;
        long seed;
        private final int[] neighbours = new int[CELLS * SIDES];
        final boolean[] barred = new boolean[CELLS];
        final int[] history = new int[CELLS];
        final int[] holders = new int[CELLS]; // the route net that holds a cell
        final int[] padAt = new int[CELLS];
        final Rows pads = new Rows(PADS); // terminal, copy, cell, route net
        final Rows nets = new Rows(NETS);
        private final int[] ways = new int[NETS * CELLS];
        private final int[] wayLengths = new int[NETS];
        private final int[] across = new int[4];
        private final int[] via = new int[4];
        private final int[] near = new int[4];
        private final int[] netOfNode = new int[TERMINALS * COPIES];

        void begin(int newWidth, int newHeight, int newLayers, long newSeed) {
            number++;
            width = newWidth;
            height = newHeight;
            layers = newLayers;
            seed = newSeed;
            pads.count = 0;
            nets.count = 0;
            for (int c = 0; c < CELLS; c++) {
                barred[c] = false;
                history[c] = 0;
                holders[c] = NONE;
                padAt[c] = NONE;
            }
            for (int l = 0; l < 4; l++) {
                setCosts(l, 0, 0, 0);
            }
            findNeighbours();
        }

        void takeNets(Drawing drawing) {
            for (int node = 0; node < TERMINALS * COPIES; node++) {
                netOfNode[node] = drawing.netOfCopy(node / COPIES, node % COPIES);
            }
        }

        void setCosts(int layer, int newAcross, int newVia, int newNear) {
            across[layer] = newAcross;
            via[layer] = newVia;
            near[layer] = newNear;
        }

        int cellAt(int layer, int i, int j) {
            boolean there = layer >= 0 && layer < layers && i >= 0 && i < width && j >= 0 && j < height;
            return there ? (layer * height + j) * width + i : NONE;
        }

        int layerOf(int cell) {
            return cell / width / height;
        }

        int rowOf(int cell) {
            return cell / width % height;
        }

        int columnOf(int cell) {
            return cell % width;
        }

        /** The sides by rising numbers of the neighbours: 0 a layer lower, 1 and 4 along j, 2 and 3 along i, 5 a layer higher. */
        int neighbour(int cell, int side) {
            return neighbours[cell * SIDES + side];
        }

        private void findNeighbours() {
            for (int cell = 0; cell < width * height * layers; cell++) {
                int layer = layerOf(cell);
                int i = columnOf(cell);
                int j = rowOf(cell);
                int from = cell * SIDES;
                neighbours[from] = cellAt(layer - 1, i, j);
                neighbours[from + 1] = cellAt(layer, i, j - 1);
                neighbours[from + 2] = cellAt(layer, i - 1, j);
                neighbours[from + 3] = cellAt(layer, i + 1, j);
                neighbours[from + 4] = cellAt(layer, i, j + 1);
                neighbours[from + 5] = cellAt(layer + 1, i, j);
            }
        }

        /** What a step to that side costs without what is told of the cell that it comes to. */
        int stepCost(int cell, int side) {
            int layer = layerOf(cell);
            if (side == 0) {
                return 2 + (layer > 0 ? via[layer - 1] : 0);
            }
            if (side == 5) {
                return 2 + via[layer];
            }
            boolean alongJ = side == 1 || side == 4;
            boolean even = layer % 2 == 0;
            return alongJ == even ? 2 + across[layer] : 2;
        }

        /** What each step to a cell costs by its near others and its history. */
        int entryCost(int cell, int net) {
            int each = near[layerOf(cell)];
            int cost = history[cell];
            for (int side = 1; side <= 4 && each > 0; side++) {
                int beside = neighbour(cell, side);
                if (beside != NONE && isHeldByOther(beside, net)) {
                    cost += each;
                }
            }
            return cost;
        }

        boolean isHeldByOther(int cell, int net) {
            return holders[cell] != NONE && holders[cell] != net;
        }

        int addPad(int terminal, int copy, int layer, int i, int j) {
            if (number == NONE) {
                return -NOT_YET;
            }
            int sheetNet = sheetNetOf(terminal, copy);
            int cell = cellAt(layer, i, j);
            if (sheetNet == NONE || cell == NONE) {
                return -NOT_SO;
            }
            if (hasPad(terminal, copy)) {
                return -TAKEN;
            }
            int net = routeNetOf(sheetNet);
            if (!pads.hasRoom() || (net == NONE && !nets.hasRoom())) {
                return -FULL;
            }
            if (net == NONE) {
                net = nets.add(sheetNet, 0, 0, 0, 0);
                wayLengths[net] = 0;
            }
            boolean free = !barred[cell] && padAt[cell] == NONE && !isHeldByOther(cell, net);
            if (!free || nets.at(net, PAD_COUNT) >= PADS_OF_NET) {
                return -TAKEN;
            }
            letGo(net);
            int pad = pads.add(terminal, copy, cell, net, 0);
            nets.set(net, PAD_COUNT, nets.at(net, PAD_COUNT) + 1);
            padAt[cell] = pad;
            holders[cell] = net;
            return pad;
        }

        private int sheetNetOf(int terminal, int copy) {
            boolean may = terminal >= 0 && terminal < TERMINALS && copy >= 0 && copy < COPIES;
            return may ? netOfNode[terminal * COPIES + copy] : NONE;
        }

        private boolean hasPad(int terminal, int copy) {
            boolean found = false;
            for (int p = 0; p < pads.count && !found; p++) {
                found = pads.at(p, 0) == terminal && pads.at(p, 1) == copy;
            }
            return found;
        }

        private int routeNetOf(int sheetNet) {
            for (int net = 0; net < nets.count; net++) {
                if (nets.at(net, SHEET_NET) == sheetNet) {
                    return net;
                }
            }
            return NONE;
        }

        int barCell(int layer, int i, int j) {
            if (number == NONE) {
                return -NOT_YET;
            }
            int cell = cellAt(layer, i, j);
            if (cell == NONE) {
                return -NOT_SO;
            }
            if (barred[cell] || holders[cell] != NONE) {
                return -TAKEN;
            }
            barred[cell] = true;
            return DID;
        }

        boolean isLed(int net) {
            return nets.at(net, LED) == 1;
        }

        boolean isOpen(int net) {
            return nets.at(net, PAD_COUNT) > 0 && !isLed(net);
        }

        int openCount() {
            int count = 0;
            for (int net = 0; net < nets.count; net++) {
                if (isOpen(net)) {
                    count++;
                }
            }
            return count;
        }

        int padCell(int pad) {
            return pads.at(pad, 2);
        }

        int padNet(int pad) {
            return pads.at(pad, 3);
        }

        /** A net is open from now on, and holds its pads alone. */
        void letGo(int net) {
            if (net < 0 || net >= nets.count) {
                return;
            }
            for (int k = 0; k < wayLengths[net]; k++) {
                int cell = ways[net * CELLS + k];
                if (padAt[cell] == NONE) {
                    holders[cell] = NONE;
                }
            }
            wayLengths[net] = 0;
            nets.set(net, LED, 0);
        }

        void addToWay(int net, int cell) {
            if (net >= 0 && net < NETS && wayLengths[net] < CELLS) {
                ways[net * CELLS + wayLengths[net]] = cell;
                wayLengths[net]++;
            }
        }

        int wayLength(int net) {
            return net >= 0 && net < nets.count ? wayLengths[net] : 0;
        }

        int wayCell(int net, int k) {
            return k >= 0 && k < wayLength(net) ? ways[net * CELLS + k] : NONE;
        }

        int wayPart(int net, int k, int what) {
            int cell = isLed(net) ? wayCell(net, k) : NONE;
            if (cell == NONE) {
                return NONE;
            }
            switch (what) {
                case 0: return layerOf(cell);
                case 1: return columnOf(cell);
                case 2: return rowOf(cell);
                default: return NONE;
            }
        }

        int blockerOf(int net, int k) {
            if (net < 0 || net >= nets.count) {
                return NONE;
            }
            int found = 0;
            for (int other = 0; other < NETS; other++) {
                if ((nets.at(net, BLOCKERS) >> other & 1) != 0) {
                    if (found == k) {
                        return other;
                    }
                    found++;
                }
            }
            return NONE;
        }
    }

    /** Leads the nets of a board. */
    private static final class Router {
        private static final long FACTOR = 6364136223846793005L;
        private static final long ADDEND = 1442695040888963407L;
        private static final int RIPPING_COST = 100;
        private static final int SIDES = Board.SIDES;
        // each cell comes at most once by each of its sides, and once as a cell of the tree
        private static final int HEAP = CELLS * (SIDES + 1);

        private final Board board;
        private final int[] distances = new int[CELLS];
        private final int[] tolls = new int[CELLS]; // what it costs to come to a cell; NONE where no way goes
        private final boolean[] inTree = new boolean[CELLS];
        private final long[] heap = new long[HEAP]; // distance * CELLS + cell, the least one first
        private int heapSize;
        private final int[] order = new int[NETS];

        Router(Board board) {
            this.board = board;
        }

        void goRound() {
            int count = 0;
            for (int net = 0; net < board.nets.count; net++) {
                if (board.isOpen(net)) {
                    order[count] = net;
                    count++;
                }
            }
            for (int k = count - 1; k > 0; k--) {
                int other = (int) (draw() % (k + 1));
                int net = order[k];
                order[k] = order[other];
                order[other] = net;
            }
            for (int n = 0; n < count; n++) {
                if (board.isOpen(order[n])) {
                    lead(order[n]);
                }
            }
        }

        private long draw() {
            board.seed = board.seed * FACTOR + ADDEND;
            return board.seed >>> 33;
        }

        private void lead(int net) {
            for (int c = 0; c < CELLS; c++) {
                inTree[c] = false;
            }
            grow(net, firstPadCell(net));
            long sum = 0;
            boolean stuck = false;
            for (int n = 0; n < Board.PADS_OF_NET && !stuck && !treeHasAllPads(net); n++) {
                int added = joinNextPad(net);
                stuck = added == NONE;
                sum += added;
            }
            if (stuck) {
                board.letGo(net);
            } else {
                board.nets.set(net, Board.LED, 1);
                board.nets.set(net, Board.COST, (int) sum);
                board.nets.set(net, Board.BLOCKERS, 0);
            }
        }

        /** The distance of the pad that is joined; NONE, and the net is blocked, when none can be. */
        private int joinNextPad(int net) {
            int pad = search(net, false);
            if (pad == NONE) {
                board.nets.set(net, Board.BLOCKERS, blockersOf(net));
                pad = search(net, true);
            }
            if (pad == NONE) {
                return NONE;
            }
            int distance = distances[board.padCell(pad)];
            joinPad(net, board.padCell(pad));
            return distance;
        }

        private void grow(int net, int cell) {
            if (cell != NONE) {
                inTree[cell] = true;
                board.holders[cell] = net;
                board.addToWay(net, cell);
            }
        }

        private int firstPadCell(int net) {
            for (int p = 0; p < board.pads.count; p++) {
                if (board.padNet(p) == net) {
                    return board.padCell(p);
                }
            }
            return NONE;
        }

        /** Whether a cell is that of a pad of a net that its tree does not have yet. */
        private boolean isOutside(int cell, int net) {
            return board.padAt[cell] != NONE && board.holders[cell] == net && !inTree[cell];
        }

        private boolean treeHasAllPads(int net) {
            boolean all = true;
            for (int p = 0; p < board.pads.count && all; p++) {
                all = !isOutside(board.padCell(p), net);
            }
            return all;
        }

        /** Finds the distances from the tree; the pad outside of it that has the least one, or NONE. */
        private int search(int net, boolean ripping) {
            int cells = board.width * board.height * board.layers;
            heapSize = 0;
            for (int c = 0; c < cells; c++) {
                distances[c] = NONE;
                tolls[c] = tollOf(c, net, ripping);
            }
            for (int k = 0; k < board.wayLength(net); k++) {
                reach(board.wayCell(net, k), 0);
            }
            int best = NONE;
            for (int n = 0; n < HEAP && heapSize > 0; n++) {
                long least = takeLeast();
                int distance = (int) (least / CELLS);
                int cell = (int) (least % CELLS);
                // what is farther than a pad that is found matters to nobody
                if (best != NONE && distance > best) {
                    break;
                }
                if (distance == distances[cell]) {
                    best = best == NONE && isOutside(cell, net) ? distance : best;
                    spread(cell);
                }
            }
            return best == NONE ? NONE : padAtDistance(net, best);
        }

        private int padAtDistance(int net, int distance) {
            for (int p = 0; p < board.pads.count; p++) {
                if (isOutside(board.padCell(p), net) && distances[board.padCell(p)] == distance) {
                    return p;
                }
            }
            return NONE;
        }

        private int tollOf(int cell, int net, boolean ripping) {
            boolean held = board.isHeldByOther(cell, net);
            if (board.barred[cell] || (held && (!ripping || board.padAt[cell] != NONE))) {
                return NONE;
            }
            return board.entryCost(cell, net) + (held ? RIPPING_COST : 0);
        }

        private void spread(int cell) {
            for (int side = 0; side < SIDES; side++) {
                int next = board.neighbour(cell, side);
                if (next != NONE && tolls[next] != NONE) {
                    reach(next, distances[cell] + board.stepCost(cell, side) + tolls[next]);
                }
            }
        }

        private void reach(int cell, int distance) {
            if (cell == NONE || (distances[cell] != NONE && distances[cell] <= distance) || heapSize >= HEAP) {
                return;
            }
            distances[cell] = distance;
            long value = (long) distance * CELLS + cell;
            int at = heapSize;
            heapSize++;
            for (; at > 0 && heap[(at - 1) / 2] > value; at = (at - 1) / 2) {
                heap[at] = heap[(at - 1) / 2];
            }
            heap[at] = value;
        }

        private long takeLeast() {
            long least = heap[0];
            heapSize--;
            long value = heap[heapSize];
            int at = 0;
            for (int child = 1; child < heapSize; child = 2 * child + 1) {
                if (child + 1 < heapSize && heap[child + 1] < heap[child]) {
                    child++;
                }
                if (heap[child] >= value) {
                    break;
                }
                heap[at] = heap[child];
                at = child;
            }
            heap[at] = value;
            return least;
        }

        /** The nets that hold a neighbour of a cell that the search came to, a bit each. */
        private int blockersOf(int net) {
            int cells = board.width * board.height * board.layers;
            int blockers = 0;
            for (int c = 0; c < cells; c++) {
                for (int side = 0; side < SIDES && distances[c] != NONE; side++) {
                    int beside = board.neighbour(c, side);
                    if (beside != NONE && board.isHeldByOther(beside, net)) {
                        blockers |= 1 << board.holders[beside];
                    }
                }
            }
            return blockers;
        }

        /** Takes the way from a pad back to the tree into it; whose cells it goes over is ripped. */
        private void joinPad(int net, int padCell) {
            int cell = padCell;
            int from = board.wayLength(net);
            for (int n = 0; n < CELLS && cell != NONE && !inTree[cell]; n++) {
                board.addToWay(net, cell);
                cell = backFrom(cell);
            }
            rip(net, from);
            for (int k = from; k < board.wayLength(net); k++) {
                inTree[board.wayCell(net, k)] = true;
                board.holders[board.wayCell(net, k)] = net;
            }
        }

        private int backFrom(int cell) {
            for (int side = 0; side < SIDES; side++) {
                int before = board.neighbour(cell, side);
                if (before != NONE && distances[before] != NONE
                    && distances[before] + board.stepCost(before, SIDES - 1 - side) + tolls[cell] == distances[cell]) {
                    return before;
                }
            }
            return NONE;
        }

        private void rip(int net, int from) {
            int ripped = 0;
            for (int k = from; k < board.wayLength(net); k++) {
                int cell = board.wayCell(net, k);
                if (board.isHeldByOther(cell, net)) {
                    board.history[cell]++;
                    ripped |= 1 << board.holders[cell];
                }
            }
            for (int other = 0; other < NETS; other++) {
                if ((ripped >> other & 1) != 0) {
                    board.letGo(other);
                    board.nets.set(other, Board.RIPPED, board.nets.at(other, Board.RIPPED) + 1);
                }
            }
        }
    }

    /** A cut of a board: its shapes, its copper, its violations, and its holes as a drill text. */
    private static final class Cut {
        private static final int SHAPES = 60;
        private static final int PITCH = 1000;
        private static final int ROW = 16; // a place is ROW * j + i
        private static final int LAYERS_DRILLED = 7;
        private static final int FEW_HOLES = 8;
        private static final int DRILL_ROOM = 800;
        // pairs, and up to three of one shape
        private static final int FAULTS = SHAPES * (SHAPES - 1) / 2 + 3 * SHAPES;
        // classes of shapes, and their radii
        private static final int TRACK = 0;
        private static final int PAD = 1;
        private static final int RING = 2;
        private static final int HOLE = 3;
        private static final int[] RADII = {100, 300, 250, 150};
        // kinds of rules
        static final int CLEAR = 0;
        static final int WIDTH = 1;
        static final int HOLES = 2;
        static final int RINGS = 3;
        static final int ENDS = 4;

        int boardNumber = NONE;
        final Rows shapes = new Rows(SHAPES); // class, route net, layer, first place, last place
        boolean spilled; // whether there were more shapes than room
        private boolean allLed;
        private int padCount;
        private final int[] pieceShapes = new int[SHAPES];
        private int pieceCount;
        private final int[] copperNets = new int[SHAPES];
        private final Rows airlines = new Rows(Board.PADS); // route net, lower pad, other pad
        int shortCount;
        private final int[] faults = new int[FAULTS]; // in one number what orders them
        int faultCount;
        private final int[] holes = new int[SHAPES]; // layer * ROW * ROW + place
        private int holeCount;
        private final int[] order = new int[SHAPES];
        private final int[] travels = new int[(1 << FEW_HOLES) * FEW_HOLES];
        private final char[] drillText = new char[DRILL_ROOM];
        private int drillLength;
        private int readAt;

        void make(Board board, Rows rules) {
            boardNumber = board.number;
            allLed = board.openCount() == 0;
            shapes.count = 0;
            spilled = false;
            padCount = board.pads.count;
            for (int p = 0; p < padCount; p++) {
                int place = placeOf(board, board.padCell(p));
                addShape(PAD, board.padNet(p), board.layerOf(board.padCell(p)), place, place);
            }
            for (int net = 0; net < board.nets.count; net++) {
                if (board.isLed(net)) {
                    addRuns(board, net, true);
                    addRuns(board, net, false);
                    addHoles(board, net);
                }
            }
            if (!spilled) {
                findPieces();
                findAirlines();
                countShorts();
                findFaults(rules);
                orderHoles();
            }
        }

        // ---- shapes ----

        private static int placeOf(Board board, int cell) {
            return ROW * board.rowOf(cell) + board.columnOf(cell);
        }

        private void addShape(int shapeClass, int net, int layer, int first, int last) {
            if (shapes.add(shapeClass, net, layer, first, last) == NONE) {
                spilled = true;
            }
        }

        private void addRuns(Board board, int net, boolean alongI) {
            int lines = alongI ? board.height : board.width;
            for (int layer = 0; layer < board.layers; layer++) {
                for (int line = 0; line < lines && !spilled; line++) {
                    addRunsOfLine(board, net, layer, line, alongI);
                }
            }
        }

        private void addRunsOfLine(Board board, int net, int layer, int line, boolean alongI) {
            int most = alongI ? board.width : board.height;
            int first = NONE;
            int last = NONE;
            int run = 0;
            for (int n = 0; n <= most; n++) {
                int cell = alongI ? board.cellAt(layer, n, line) : board.cellAt(layer, line, n);
                if (cell != NONE && board.holders[cell] == net) {
                    last = placeOf(board, cell);
                    first = run == 0 ? last : first;
                    run++;
                } else {
                    if (run > 1) {
                        addShape(TRACK, net, layer, first, last);
                    }
                    run = 0;
                }
            }
        }

        private void addHoles(Board board, int net) {
            for (int layer = 0; layer + 1 < board.layers; layer++) {
                for (int j = 0; j < board.height; j++) {
                    for (int i = 0; i < board.width && !spilled; i++) {
                        if (holds(board, net, layer, i, j) && holds(board, net, layer + 1, i, j)) {
                            int place = ROW * j + i;
                            addShape(RING, net, layer, place, place);
                            addShape(RING, net, layer + 1, place, place);
                            addShape(HOLE, net, layer, place, place);
                        }
                    }
                }
            }
        }

        private static boolean holds(Board board, int net, int layer, int i, int j) {
            int cell = board.cellAt(layer, i, j);
            return cell != NONE && board.holders[cell] == net;
        }

        private int classOf(int shape) {
            return shapes.at(shape, 0);
        }

        private int netOfShape(int shape) {
            return shapes.at(shape, 1);
        }

        private int layerOf(int shape) {
            return shapes.at(shape, 2);
        }

        private boolean isCopper(int shape) {
            return classOf(shape) != HOLE;
        }

        private int radiusOf(int shape) {
            int c = classOf(shape);
            return c >= 0 && c < RADII.length ? RADII[c] : 0;
        }

        /** Where a shape's line begins or ends, along x or y. */
        private int edge(int shape, boolean alongX, boolean atEnd) {
            int place = shapes.at(shape, atEnd ? 4 : 3);
            return PITCH * (alongX ? place % ROW : place / ROW);
        }

        /** How far two lines are from one another along x or y, when both together are so much wider. */
        private static long gap(int from, int to, int otherFrom, int otherTo, int wider) {
            return Math.max(0, Math.max(otherFrom - to, from - otherTo) - wider);
        }

        private long squareBetween(int a, int b, int wider) {
            long x = gap(edge(a, true, false), edge(a, true, true), edge(b, true, false), edge(b, true, true), wider);
            long y = gap(edge(a, false, false), edge(a, false, true), edge(b, false, false), edge(b, false, true), wider);
            return x * x + y * y;
        }

        // ---- copper ----

        private void findPieces() {
            pieceCount = 0;
            for (int s = 0; s < shapes.count; s++) {
                if (classOf(s) != RING) {
                    pieceShapes[pieceCount] = s;
                    copperNets[pieceCount] = pieceCount;
                    pieceCount++;
                }
            }
            for (int a = 0; a < pieceCount; a++) {
                for (int b = a + 1; b < pieceCount; b++) {
                    if (copperNets[a] != copperNets[b] && touch(pieceShapes[a], pieceShapes[b])) {
                        joinCopper(copperNets[a], copperNets[b], pieceCount);
                    }
                }
            }
            numberCopper();
        }

        private void joinCopper(int net, int other, int count) {
            int least = Math.min(net, other);
            for (int p = 0; p < count; p++) {
                if (copperNets[p] == net || copperNets[p] == other) {
                    copperNets[p] = least;
                }
            }
        }

        /** From the number of a net's lowest piece to that of the net. */
        private void numberCopper() {
            int count = 0;
            for (int p = 0; p < pieceCount; p++) {
                if (copperNets[p] == p) {
                    order[p] = count;
                    count++;
                }
            }
            for (int p = 0; p < pieceCount; p++) {
                copperNets[p] = order[copperNets[p]];
            }
        }

        private boolean touch(int a, int b) {
            int lowerTop = Math.min(topOf(a), topOf(b));
            if (Math.max(layerOf(a), layerOf(b)) > lowerTop) {
                return false;
            }
            // tracks are rectangles, all others discs
            boolean trackA = classOf(a) == TRACK;
            boolean trackB = classOf(b) == TRACK;
            int wider = (trackA ? radiusOf(a) : 0) + (trackB ? radiusOf(b) : 0);
            long reach = (trackA ? 0 : radiusOf(a)) + (trackB ? 0 : radiusOf(b));
            return squareBetween(a, b, wider) <= reach * reach;
        }

        private int topOf(int shape) {
            return layerOf(shape) + (classOf(shape) == HOLE ? 1 : 0);
        }

        int copperOf(int piece) {
            return piece >= 0 && piece < pieceCount ? copperNets[piece] : NONE;
        }

        private void findAirlines() {
            airlines.count = 0;
            // what the airlines of a net join is marked in order, which is not used yet
            for (int net = 0; net < NETS; net++) {
                for (int p = 0; p < padCount; p++) {
                    order[p] = copperNets[p];
                }
                int nearest = nearestPair(net);
                for (int n = 0; n < padCount && nearest != NONE; n++) {
                    int pad = nearest / SHAPES;
                    int other = nearest % SHAPES;
                    airlines.add(net, pad, other, 0, 0);
                    joinMarks(order[pad], order[other]);
                    nearest = nearestPair(net);
                }
            }
        }

        private void joinMarks(int mark, int other) {
            for (int p = 0; p < padCount; p++) {
                if (order[p] == other) {
                    order[p] = mark;
                }
            }
        }

        /** The first two pads of the least distance that are not joined, as SHAPES * lower + other, or NONE. */
        private int nearestPair(int net) {
            int found = NONE;
            long least = 0;
            for (int a = 0; a < padCount; a++) {
                for (int b = a + 1; b < padCount; b++) {
                    boolean apart = netOfShape(a) == net && netOfShape(b) == net && order[a] != order[b];
                    if (apart && (found == NONE || squareBetween(a, b, 0) < least)) {
                        found = SHAPES * a + b;
                        least = squareBetween(a, b, 0);
                    }
                }
            }
            return found;
        }

        int airlineCount(int net) {
            int count = 0;
            for (int n = 0; n < airlines.count; n++) {
                if (airlines.at(n, 0) == net) {
                    count++;
                }
            }
            return count;
        }

        int airlineEnd(int net, int k, int which) {
            int left = k;
            for (int n = 0; n < airlines.count && k >= 0; n++) {
                if (airlines.at(n, 0) == net) {
                    if (left == 0) {
                        return which == 0 || which == 1 ? airlines.at(n, 1 + which) : NONE;
                    }
                    left--;
                }
            }
            return NONE;
        }

        private void countShorts() {
            shortCount = 0;
            for (int copper = 0; copper < pieceCount; copper++) {
                int net = NONE;
                boolean isShort = false;
                for (int p = 0; p < padCount; p++) {
                    if (copperNets[p] == copper) {
                        isShort = isShort || (net != NONE && net != netOfShape(p));
                        net = netOfShape(p);
                    }
                }
                if (isShort) {
                    shortCount++;
                }
            }
        }

        boolean isExact() {
            return allLed && airlines.count == 0 && shortCount == 0 && faultCount == 0;
        }

        // ---- rules ----

        private void findFaults(Rows rules) {
            faultCount = 0;
            for (int a = 0; a < shapes.count; a++) {
                findFaultsOf(a, rules);
                for (int b = a + 1; b < shapes.count; b++) {
                    findFaultsOfPair(a, b, rules);
                }
            }
            sortRising(faults, faultCount);
        }

        private void findFaultsOf(int a, Rows rules) {
            int c = classOf(a);
            int width = valueOf(rules, WIDTH, c, NONE);
            if (isCopper(a) && width != NONE && 2 * radiusOf(a) < width) {
                addFault(WIDTH, a, NONE);
            }
            int ring = valueOf(rules, RINGS, c, NONE);
            if (c == HOLE && ring != NONE && !hasRing(a, ring)) {
                addFault(RINGS, a, NONE);
            }
            boolean ends = valueOf(rules, ENDS, c, NONE) != NONE;
            if (c == TRACK && ends && !(endLies(a, false) && endLies(a, true))) {
                addFault(ENDS, a, NONE);
            }
        }

        private void findFaultsOfPair(int a, int b, Rows rules) {
            boolean copper = isCopper(a) && isCopper(b);
            boolean clear = copper && layerOf(a) == layerOf(b) && netOfShape(a) != netOfShape(b);
            boolean holes = !isCopper(a) && !isCopper(b);
            if (clear && isTooNear(a, b, valueOf(rules, CLEAR, classOf(a), classOf(b)))) {
                addFault(CLEAR, a, b);
            }
            if (holes && isTooNear(a, b, valueOf(rules, HOLES, classOf(a), classOf(b)))) {
                addFault(HOLES, a, b);
            }
        }

        private boolean isTooNear(int a, int b, int value) {
            long least = (long) value + radiusOf(a) + radiusOf(b);
            return value != NONE && squareBetween(a, b, 0) < least * least;
        }

        /** The value of the rule told last for two classes, or (other NONE) for one; NONE without one. */
        private static int valueOf(Rows rules, int kind, int shapeClass, int other) {
            for (int r = rules.count - 1; r >= 0; r--) {
                int a = rules.at(r, 1);
                int b = rules.at(r, 2);
                boolean theirs = other == NONE ? isFor(a, shapeClass)
                    : (isFor(a, shapeClass) && isFor(b, other)) || (isFor(a, other) && isFor(b, shapeClass));
                if (rules.at(r, 0) == kind && theirs) {
                    return rules.at(r, 3);
                }
            }
            return NONE;
        }

        private static boolean isFor(int ruleClass, int shapeClass) {
            return ruleClass == NONE || ruleClass == shapeClass;
        }

        private boolean hasRing(int hole, int value) {
            boolean found = false;
            for (int s = 0; s < shapes.count && !found; s++) {
                boolean may = (classOf(s) == RING || classOf(s) == PAD) && netOfShape(s) == netOfShape(hole);
                long most = (long) radiusOf(s) - radiusOf(hole) - value;
                found = may && most >= 0 && squareBetween(s, hole, 0) <= most * most;
            }
            return found;
        }

        /** Whether an end of a track lies in other copper of its net. */
        private boolean endLies(int track, boolean atEnd) {
            int x = edge(track, true, atEnd);
            int y = edge(track, false, atEnd);
            boolean found = false;
            for (int s = 0; s < shapes.count && !found; s++) {
                boolean may = s != track && isCopper(s) && netOfShape(s) == netOfShape(track) && layerOf(s) == layerOf(track);
                long alongX = gap(x, x, edge(s, true, false), edge(s, true, true), 0);
                long alongY = gap(y, y, edge(s, false, false), edge(s, false, true), 0);
                long reach = radiusOf(s);
                found = may && alongX * alongX + alongY * alongY <= reach * reach;
            }
            return found;
        }

        private void addFault(int kind, int a, int b) {
            int place = shapes.at(a, 3);
            int value = (layerOf(a) * ROW + place % ROW) * ROW + place / ROW;
            value = (value * (ENDS + 1) + kind) * SHAPES + a;
            if (faultCount < FAULTS) {
                faults[faultCount] = value * (SHAPES + 1) + b + 1;
                faultCount++;
            }
        }

        int faultPart(int k, int what) {
            if (k < 0 || k >= faultCount) {
                return NONE;
            }
            int b = faults[k] % (SHAPES + 1) - 1;
            int rest = faults[k] / (SHAPES + 1);
            switch (what) {
                case 0: return rest / SHAPES % (ENDS + 1);
                case 1: return rest % SHAPES;
                case 2: return b;
                default: return NONE;
            }
        }

        // ---- holes ----

        private void orderHoles() {
            holeCount = 0;
            for (int s = 0; s < shapes.count; s++) {
                if (classOf(s) == HOLE) {
                    holes[holeCount] = layerOf(s) * ROW * ROW + shapes.at(s, 3);
                    holeCount++;
                }
            }
            if (holeCount <= FEW_HOLES) {
                orderFewHoles();
            } else {
                orderManyHoles();
            }
        }

        private static int xOf(int hole) {
            return PITCH * (hole % ROW);
        }

        private static int yOf(int hole) {
            return PITCH * (hole / ROW % ROW);
        }

        /** The way to a hole from another one, or (NONE) from 0, 0. */
        private int wayBetween(int from, int to) {
            int x = xOf(holes[to]);
            int y = yOf(holes[to]);
            if (from != NONE) {
                x -= xOf(holes[from]);
                y -= yOf(holes[from]);
            }
            return Math.max(Math.abs(x), Math.abs(y));
        }

        /** For each set of holes that were drilled, and the last one of them: the least travel that is left. */
        private void orderFewHoles() {
            int all = (1 << holeCount) - 1;
            for (int drilled = all; drilled > 0; drilled--) {
                for (int last = 0; last < holeCount; last++) {
                    int next = nextOfLeastTravel(drilled, last);
                    travels[drilled * FEW_HOLES + last] = next == NONE ? 0 : travelBy(drilled, last, next);
                }
            }
            int drilled = 0;
            int last = NONE;
            for (int n = 0; n < holeCount; n++) {
                last = nextOfLeastTravel(drilled, last);
                order[n] = last;
                drilled |= 1 << last;
            }
        }

        private int travelBy(int drilled, int last, int next) {
            return wayBetween(last, next) + travels[(drilled | 1 << next) * FEW_HOLES + next];
        }

        private int nextOfLeastTravel(int drilled, int last) {
            int next = NONE;
            for (int h = 0; h < holeCount; h++) {
                boolean left = (drilled >> h & 1) == 0;
                if (left && (next == NONE || travelBy(drilled, last, h) < travelBy(drilled, last, next))) {
                    next = h;
                }
            }
            return next;
        }

        private void orderManyHoles() {
            long drilled = 0;
            int last = NONE;
            for (int n = 0; n < holeCount; n++) {
                int nearest = NONE;
                for (int h = 0; h < holeCount; h++) {
                    boolean left = (drilled >> h & 1) == 0;
                    if (left && (nearest == NONE || wayBetween(last, h) < wayBetween(last, nearest))) {
                        nearest = h;
                    }
                }
                order[n] = nearest;
                drilled |= 1L << nearest;
                last = nearest;
            }
        }

        // ---- the drill text ----

        private boolean isHoleOf(int n, int layer) {
            return holes[order[n]] / (ROW * ROW) == layer;
        }

        private int countHoles(int layer) {
            int count = 0;
            for (int n = 0; n < holeCount; n++) {
                count += isHoleOf(n, layer) ? 1 : 0;
            }
            return count;
        }

        private int holeX(int n) {
            return xOf(holes[order[n]]);
        }

        private int holeY(int n) {
            return yOf(holes[order[n]]);
        }

        void writeDrill(int layer) {
            drillLength = 0;
            emitWord("M48\nL");
            emitNumber(layer);
            emitWord(",");
            emitNumber(layer + 1);
            emitWord("\nT0C300P\n%\n");
            if (countHoles(layer) > 0) {
                emitWord("T0\n");
            }
            for (int n = 0; n < holeCount; n++) {
                if (isHoleOf(n, layer)) {
                    emitWord("X");
                    emitNumber(holeX(n));
                    emitWord("Y");
                    emitNumber(holeY(n));
                    emitWord("\n");
                }
            }
            emitWord("M30\n");
        }

        private void emitWord(String word) {
            for (int i = 0; i < word.length() && drillLength < DRILL_ROOM; i++) {
                drillText[drillLength] = word.charAt(i);
                drillLength++;
            }
        }

        private void emitNumber(int value) {
            boolean begun = false;
            for (int unit = 10000; unit > 0 && drillLength < DRILL_ROOM; unit /= 10) {
                begun = begun || value >= unit || unit == 1;
                if (begun) {
                    drillText[drillLength] = (char) ('0' + value / unit % 10);
                    drillLength++;
                }
            }
        }

        int drillLetter(int layer, int i) {
            if (layer < 0 || layer >= LAYERS_DRILLED || i < 0) {
                return NONE;
            }
            writeDrill(layer);
            return i < drillLength ? drillText[i] : NONE;
        }

        int readBack(int layer) {
            if (layer < 0 || layer >= LAYERS_DRILLED) {
                return NONE;
            }
            writeDrill(layer);
            readAt = 0;
            boolean good = takeWord("M48\nL") && takeNumber() == layer && takeWord(",")
                && takeNumber() == layer + 1 && takeWord("\nT0C300P\n%\n");
            if (countHoles(layer) > 0) {
                good = good && takeWord("T0\n");
            }
            for (int n = 0; n < holeCount && good; n++) {
                good = !isHoleOf(n, layer) || (takeWord("X") && takeNumber() == holeX(n)
                    && takeWord("Y") && takeNumber() == holeY(n) && takeWord("\n"));
            }
            return good && takeWord("M30\n") && readAt == drillLength ? 1 : 0;
        }

        private boolean takeWord(String word) {
            boolean same = true;
            for (int i = 0; i < word.length() && same; i++) {
                same = readAt < drillLength && drillText[readAt] == word.charAt(i);
                readAt++;
            }
            return same;
        }

        private int takeNumber() {
            int from = readAt;
            int value = 0;
            for (; readAt < drillLength && readAt < from + 5 && isDigit(drillText[readAt]); readAt++) {
                value = value * 10 + drillText[readAt] - '0';
            }
            return readAt == from ? NONE : value;
        }

        private static boolean isDigit(char c) {
            return c >= '0' && c <= '9';
        }
    }

    /** The text of a script that is one; where its blocks end, and its functions begin. */
    private static final class Script {
        static final int ROOM = 400;
        private static final int STATEMENTS = 100;
        private static final int DEEPEST_BLOCK = 2;
        private static final int DEEPEST_ATOM = 3;
        private static final int LETTERS = 26;

        private final char[] text = new char[ROOM];
        private int length;
        private int place;
        private int fault;
        int statements;
        private final int[] closings = new int[ROOM]; // for each { and [ the place of its end
        private final int[] functions = new int[LETTERS]; // the places of their {, or NONE

        /** The place by which a text is no script, or NONE. */
        int faultIn(char[] from, int newLength) {
            length = Math.min(Math.min(newLength, ROOM), from.length);
            for (int i = 0; i < length; i++) {
                text[i] = from[i];
            }
            place = 0;
            fault = NONE;
            statements = 0;
            for (int f = 0; f < LETTERS; f++) {
                functions[f] = NONE;
            }
            readStatements(0, NONE);
            return fault;
        }

        /** A character of the text; NONE outside of it. */
        int letter(int at) {
            return at >= 0 && at < length ? text[at] : NONE;
        }

        /** The place at which the block ends that begins at a place. */
        int closingOf(int at) {
            return at >= 0 && at < length ? closings[at] : length;
        }

        /** The place of the { of a function, or NONE. */
        int functionAt(int letter) {
            return isFunction(letter) ? functions[letter - 'A'] : NONE;
        }

        /** The place behind the ; that is next. */
        int behindSemicolon(int at) {
            int next = at;
            while (next < length && text[next] != ';') {
                next++;
            }
            return next + 1;
        }

        static boolean isVariable(int c) {
            return c >= 'a' && c <= 'z';
        }

        static boolean isFunction(int c) {
            return c >= 'A' && c <= 'Z';
        }

        static boolean isDigit(int c) {
            return c >= '0' && c <= '9';
        }

        private void fail(int at) {
            if (fault == NONE) {
                fault = at;
            }
        }

        private boolean isNext(int c) {
            return fault == NONE && letter(place) == c;
        }

        private void take(int c) {
            if (fault == NONE && letter(place) == c) {
                place++;
            } else {
                fail(place);
            }
        }

        private void readStatements(int depth, int closing) {
            for (int n = 0; n <= ROOM && fault == NONE && letter(place) != closing; n++) {
                if (letter(place) == '\n') {
                    place++;
                } else {
                    readStatement(depth);
                }
            }
        }

        private void readStatement(int depth) {
            int c = letter(place);
            if (statements >= STATEMENTS) {
                fail(place);
            }
            statements++;
            if (c == '?' || c == '*' || c == '~' || c == '[' || c == ':') {
                readBlocks(c, depth);
                return;
            }
            if (isVariable(c)) {
                place++;
                take('=');
                readExpression(0);
            } else if (isFunction(c)) {
                place++;
            } else if (c == '@' || c == '\'') {
                // the sign of the statement's own is not counted
                place++;
                readAtom(0);
                if (c == '@') {
                    readField();
                }
                take('=');
                readExpression(0);
            } else if (c == '!' || c == '^' || c == '+' || c == '&' || c == '|' || c == '<') {
                place++;
                readExpression(0);
            } else {
                fail(place);
            }
            take(';');
        }

        private void readBlocks(int c, int depth) {
            if (c == '[') {
                readBlock(depth, '[', ']');
                return;
            }
            int at = place;
            place++;
            if (c == ':') {
                readFunction(depth, at);
                return;
            }
            if (c != '~') {
                readExpression(0);
            }
            readBlock(depth, '{', '}');
            if (c == '~' || (c == '?' && isNext('{'))) {
                readBlock(depth, '{', '}');
            }
        }

        private void readFunction(int depth, int at) {
            int name = letter(place);
            if (!isFunction(name)) {
                fail(place);
                return;
            }
            if (depth > 0 || functionAt(name) != NONE) {
                fail(at);
                return;
            }
            place++;
            functions[name - 'A'] = place;
            readBlock(depth, '{', '}');
        }

        private void readBlock(int depth, char opening, char closing) {
            if (!isNext(opening) || depth >= DEEPEST_BLOCK) {
                fail(place);
                return;
            }
            int at = place;
            place++;
            readStatements(depth + 1, closing);
            closings[at] = place;
            take(closing);
        }

        private void readExpression(int depth) {
            readSum(depth);
            if (isNext('<') || isNext('=')) {
                place++;
                readSum(depth);
            }
        }

        private void readSum(int depth) {
            readProduct(depth);
            for (int n = 0; n < ROOM && (isNext('+') || isNext('-')); n++) {
                place++;
                readProduct(depth);
            }
        }

        private void readProduct(int depth) {
            readAtom(depth);
            for (int n = 0; n < ROOM && (isNext('*') || isNext('/') || isNext('%')); n++) {
                place++;
                readAtom(depth);
            }
        }

        private void readAtom(int depth) {
            int c = fault == NONE ? letter(place) : NONE;
            if (isDigit(c)) {
                for (int digits = 0; digits < 4 && isDigit(letter(place)); digits++) {
                    place++;
                }
            } else if (isVariable(c) || c == '#') {
                place++;
            } else if (depth < DEEPEST_ATOM && (c == '-' || c == '(' || c == '@' || c == '\'')) {
                readDeepAtom(c, depth + 1);
            } else {
                fail(place);
            }
        }

        private void readDeepAtom(int c, int depth) {
            place++;
            if (c == '(') {
                readExpression(depth);
                take(')');
                return;
            }
            readAtom(depth);
            if (c == '@') {
                readField();
            }
        }

        private void readField() {
            take(':');
            int c = letter(place);
            if (c >= '0' && c <= '5') {
                place++;
            } else {
                fail(place);
            }
        }
    }

    /** Runs a script over its facts, its list and its variables. */
    private static final class Machine {
        private static final int OUTPUTS = 40;
        private static final int FIELDS = 6;
        private static final int LIST = 20;
        private static final int DEMANDS = 8;
        private static final int Z = 25;
        private static final int MOST_CALLS = 2;
        // three texts of blocks, two deep each, and no more
        private static final int DEEPEST = 10;

        private Script script;
        private final long[] variables = new long[26];
        private final long[] facts = new long[NETS * FIELDS];
        private int factCount;
        private final long[] keptFacts = new long[DEEPEST * NETS * FIELDS];
        private final long[] list = new long[LIST];
        private int listLength;
        final long[] outputs = new long[OUTPUTS];
        int outputCount;
        private final int[] demands = new int[DEMANDS];
        private int demandCount;
        private int stepsLeft;
        private boolean stopped;
        private int errorKind;
        private int errorPlace;
        private int errorValue;
        private int cursor;
        private int raised; // the error of the expression that is being reckoned

        Machine(Script script) {
            this.script = script;
            errorPlace = NONE;
        }

        /** A new script, of which there was no run yet. */
        void take(Script newScript) {
            script = newScript;
            outputCount = 0;
            demandCount = 0;
            clearError();
        }

        private void clearError() {
            errorKind = 0;
            errorPlace = NONE;
            errorValue = 0;
        }

        void takeFacts(Board board, Cut cut) {
            factCount = NETS;
            for (int net = 0; net < NETS; net++) {
                int from = net * FIELDS;
                boolean there = net < board.nets.count;
                boolean isCut = there && cut.boardNumber == board.number;
                facts[from] = board.nets.at(net, Board.SHEET_NET);
                facts[from + 1] = board.nets.at(net, Board.PAD_COUNT);
                facts[from + 2] = board.nets.at(net, Board.LED);
                facts[from + 3] = board.isLed(net) ? board.nets.at(net, Board.COST) : NONE;
                facts[from + 4] = board.nets.at(net, Board.RIPPED);
                facts[from + 5] = isCut ? cut.airlineCount(net) : NONE;
            }
        }

        int go(int steps) {
            for (int v = 0; v < variables.length; v++) {
                variables[v] = 0;
            }
            outputCount = 0;
            demandCount = 0;
            clearError();
            stepsLeft = steps;
            stopped = false;
            walk(0, Script.ROOM, 0, 0);
            if (stopped) {
                clearError();
                return 2;
            }
            return errorKind == 0 ? 0 : 1;
        }

        int errorPart(int what) {
            switch (what) {
                case 0: return errorKind;
                case 1: return errorPlace;
                case 2: return errorValue;
                default: return NONE;
            }
        }

        int ask(int k) {
            if (k < 0 || k >= demandCount) {
                return NONE;
            }
            cursor = demands[k];
            raised = 0;
            long value = expression(0);
            if (raised != 0) {
                return -2;
            }
            return value != 0 ? 1 : 0;
        }

        boolean allDemandsHold() {
            boolean all = true;
            for (int k = 0; k < demandCount && all; k++) {
                all = ask(k) == 1;
            }
            return all;
        }

        // ---- statements: each answers the place behind it ----

        private boolean isGoing() {
            return !stopped && errorKind == 0;
        }

        private boolean spendStep() {
            if (stepsLeft <= 0) {
                stopped = true;
                return false;
            }
            stepsLeft--;
            return true;
        }

        private void fail(int kind, int place, int value) {
            errorKind = kind;
            errorPlace = place;
            errorValue = value;
        }

        private void walk(int from, int to, int calls, int depth) {
            int at = from;
            for (int n = 0; n <= Script.ROOM && at < to && isGoing() && depth < DEEPEST; n++) {
                int c = script.letter(at);
                if (c == NONE) {
                    return;
                }
                at = c == '\n' ? at + 1 : walkStatement(at, calls, depth);
            }
        }

        private int walkBlock(int at, int calls, int depth) {
            walk(at + 1, script.closingOf(at), calls, depth + 1);
            return script.closingOf(at) + 1;
        }

        private int walkStatement(int at, int calls, int depth) {
            int c = script.letter(at);
            if (c == ':') {
                return script.closingOf(at + 2) + 1;
            }
            if (c == '*') {
                return walkLoop(at, calls, depth);
            }
            if (!spendStep()) {
                return at;
            }
            if (Script.isFunction(c)) {
                return walkCall(at, calls, depth);
            }
            switch (c) {
                case '?': return walkChoice(at, calls, depth);
                case '[': return walkAct(at, calls, depth);
                case '~': return walkClosing(at, calls, depth);
                case '@': return setField(at);
                case '\'': return setPlace(at);
                case '&': return addDemand(at);
                case '|': return query(at);
                default: return walkPlain(at);
            }
        }

        private int walkLoop(int at, int calls, int depth) {
            boolean again = true;
            int next = at;
            for (int n = 0; n <= STEPS && again && isGoing(); n++) {
                again = spendStep();
                if (again) {
                    long value = reckonIn(at + 1, at);
                    next = script.closingOf(cursor) + 1;
                    again = isGoing() && value != 0;
                }
                if (again) {
                    walkBlock(cursor, calls, depth);
                }
            }
            return next;
        }

        private int walkCall(int at, int calls, int depth) {
            int function = script.functionAt(script.letter(at));
            if (function == NONE) {
                fail(6, at, 0);
            } else if (calls >= MOST_CALLS) {
                fail(5, at, 0);
            } else {
                walkBlock(function, calls + 1, depth);
            }
            return at + 2;
        }

        private int walkChoice(int at, int calls, int depth) {
            long value = reckonIn(at + 1, at);
            int first = cursor;
            int second = script.closingOf(first) + 1;
            boolean hasSecond = script.letter(second) == '{';
            if (isGoing() && value != 0) {
                walkBlock(first, calls, depth);
            } else if (isGoing() && hasSecond) {
                walkBlock(second, calls, depth);
            }
            return hasSecond ? script.closingOf(second) + 1 : second;
        }

        private int walkAct(int at, int calls, int depth) {
            int count = factCount;
            int from = depth * NETS * FIELDS;
            System.arraycopy(facts, 0, keptFacts, from, NETS * FIELDS);
            int next = walkBlock(at, calls, depth);
            if (errorKind != 0 && !stopped) {
                factCount = count;
                System.arraycopy(keptFacts, from, facts, 0, NETS * FIELDS);
            }
            return next;
        }

        private int walkClosing(int at, int calls, int depth) {
            int second = walkBlock(at + 1, calls, depth);
            int kind = errorKind;
            int place = errorPlace;
            int value = errorValue;
            clearError();
            if (!stopped) {
                walkBlock(second, calls, depth);
            }
            if (errorKind == 0) {
                fail(kind, place, value);
            }
            return script.closingOf(second) + 1;
        }

        /** a=E; !E; ^E; +E; and <E; */
        private int walkPlain(int at) {
            int c = script.letter(at);
            boolean set = Script.isVariable(c);
            long value = reckonIn(set ? at + 2 : at + 1, at);
            if (isGoing()) {
                if (set) {
                    variables[c - 'a'] = value;
                } else if (c == '!') {
                    putOut(value);
                } else if (c == '^') {
                    fail(4, at, (int) value);
                } else if (c == '+') {
                    addFact(value, at);
                } else {
                    makeList(value, at);
                }
            }
            return cursor + 1;
        }

        private void putOut(long value) {
            if (outputCount < OUTPUTS) {
                outputs[outputCount] = value;
                outputCount++;
            }
        }

        private void addFact(long value, int at) {
            if (factCount >= NETS) {
                fail(3, at, 0);
                return;
            }
            int from = factCount * FIELDS;
            facts[from] = value;
            for (int f = 1; f < FIELDS; f++) {
                facts[from + f] = 0;
            }
            factCount++;
        }

        private void makeList(long value, int at) {
            if (value < 0 || value > LIST) {
                fail(3, at, 0);
                return;
            }
            listLength = (int) value;
            for (int n = 0; n < LIST; n++) {
                list[n] = 0;
            }
        }

        private int setField(int at) {
            cursor = at + 1;
            raised = 0;
            int index = factIndex(atom(0));
            long value = valueBehindTarget();
            if (raised != 0) {
                fail(raised, at, 0);
            } else if (index != NONE) {
                facts[index] = value;
            }
            return cursor + 1;
        }

        private int setPlace(int at) {
            cursor = at + 1;
            raised = 0;
            int index = listIndex(atom(0));
            long value = valueBehindTarget();
            if (raised != 0) {
                fail(raised, at, 0);
            } else if (index != NONE) {
                list[index] = value;
            }
            return cursor + 1;
        }

        /** The E behind a = that is next. */
        private long valueBehindTarget() {
            cursor++;
            return expression(0);
        }

        private int addDemand(int at) {
            if (demandCount < DEMANDS) {
                demands[demandCount] = at + 1;
                demandCount++;
            }
            return script.behindSemicolon(at);
        }

        private int query(int at) {
            long before = variables[Z];
            for (int f = 0; f < factCount && isGoing(); f++) {
                variables[Z] = f;
                reckonIn(at + 1, at);
            }
            if (isGoing()) {
                variables[Z] = before;
            }
            return script.behindSemicolon(at);
        }

        // ---- expressions: the first error is kept, and the cursor goes to the end all the same ----

        /** Reckons for the statement at a place, whose error it is. */
        private long reckonIn(int from, int at) {
            cursor = from;
            raised = 0;
            long value = expression(0);
            if (raised != 0) {
                fail(raised, at, 0);
            }
            return value;
        }

        private void raise(int kind) {
            if (raised == 0) {
                raised = kind;
            }
        }

        private long expression(int depth) {
            long value = sum(depth);
            int c = script.letter(cursor);
            if (c != '<' && c != '=') {
                return value;
            }
            cursor++;
            long other = sum(depth);
            boolean holds = c == '<' ? value < other : value == other;
            return holds ? 1 : 0;
        }

        private long sum(int depth) {
            long value = product(depth);
            int c = script.letter(cursor);
            for (int n = 0; n < Script.ROOM && (c == '+' || c == '-'); n++) {
                cursor++;
                long other = product(depth);
                value = c == '+' ? value + other : value - other;
                c = script.letter(cursor);
            }
            return value;
        }

        private long product(int depth) {
            long value = atom(depth);
            int c = script.letter(cursor);
            for (int n = 0; n < Script.ROOM && (c == '*' || c == '/' || c == '%'); n++) {
                cursor++;
                long other = atom(depth);
                value = c == '*' ? value * other : divided(value, other, c == '/');
                c = script.letter(cursor);
            }
            return value;
        }

        private long divided(long value, long by, boolean whole) {
            if (by == 0) {
                raise(1);
                return 0;
            }
            return whole ? value / by : value % by;
        }

        private long atom(int depth) {
            int c = script.letter(cursor);
            if (Script.isDigit(c)) {
                return digits();
            }
            cursor++;
            if (Script.isVariable(c)) {
                return variables[c - 'a'];
            }
            if (c == '#') {
                return factCount;
            }
            return depth < Script.DEEPEST_ATOM ? deepAtom(c, depth + 1) : 0;
        }

        private long digits() {
            long value = 0;
            for (int n = 0; n < 4 && Script.isDigit(script.letter(cursor)); n++) {
                value = value * 10 + script.letter(cursor) - '0';
                cursor++;
            }
            return value;
        }

        private long deepAtom(int c, int depth) {
            if (c == '(') {
                long value = expression(depth);
                cursor++;
                return value;
            }
            long value = atom(depth);
            if (c == '-') {
                return -value;
            }
            int index = c == '@' ? factIndex(value) : listIndex(value);
            if (index == NONE) {
                return 0;
            }
            return c == '@' ? facts[index] : list[index];
        }

        /** Where in facts the field is that :d tells behind a fact's number; NONE, and an error, when there is none. */
        private int factIndex(long fact) {
            int field = script.letter(cursor + 1) - '0';
            cursor += 2;
            if (fact < 0 || fact >= factCount || field < 0 || field >= FIELDS) {
                raise(2);
                return NONE;
            }
            return (int) fact * FIELDS + field;
        }

        private int listIndex(long number) {
            if (number < 0 || number >= listLength) {
                raise(2);
                return NONE;
            }
            return (int) number;
        }
    }

    /** Editions of boards, as rows of blocks, and the log by which they outlive a crash. */
    private static final class Store {
        private static final int BLOCKS = 24;
        private static final int BLOCK_BYTES = 24;
        private static final int EDITIONS = 12;
        private static final int ROW_BLOCKS = 8;
        private static final int LOG = 400;
        private static final int CRASHES = 16;
        private static final int PAD_BYTES = 4;
        // the kinds of records
        private static final int NEW_BLOCK = 1;
        private static final int OLD_BLOCK = 2;
        private static final int CLOSED = 3;
        private static final int DROPPED = 4;
        private static final int SWEPT = 5;

        private final int[] log = new int[LOG];
        private int logLength;
        private final int[] blockBytes = new int[BLOCKS * BLOCK_BYTES];
        private final int[] blockLengths = new int[BLOCKS];
        private final boolean[] there = new boolean[BLOCKS];
        private int blockCount;
        // the row that was begun is the one behind the last edition
        private final int[] rows = new int[(EDITIONS + 1) * ROW_BLOCKS];
        private final int[] rowLengths = new int[EDITIONS + 1];
        private final boolean[] dropped = new boolean[EDITIONS + 1];
        private int editionCount;
        private boolean crashed;
        private int crashes;
        private final int[] bytes = new int[BLOCK_BYTES];

        int keep(Board board) {
            if (board.number == NONE || crashed) {
                return -NOT_YET;
            }
            int row = rowLengths[editionCount];
            int fresh = 0;
            int needed = 1;
            for (int net = 0; net < board.nets.count; net++) {
                int length = gatherBytes(board, net);
                if (length > 0) {
                    boolean old = sameBlock(length) != NONE;
                    row++;
                    fresh += old ? 0 : 1;
                    needed += old ? 2 : 2 + length;
                }
            }
            boolean fits = row <= ROW_BLOCKS && blockCount + fresh <= BLOCKS && editionCount < EDITIONS;
            if (!fits || logLength + needed > LOG) {
                return -FULL;
            }
            for (int net = 0; net < board.nets.count; net++) {
                int length = gatherBytes(board, net);
                if (length > 0) {
                    recordBlock(length);
                }
            }
            record(CLOSED, NONE);
            return editionCount - 1;
        }

        /** The bytes of a net's pads come into bytes: how many. */
        private int gatherBytes(Board board, int net) {
            int length = 0;
            for (int p = 0; p < board.pads.count; p++) {
                if (board.padNet(p) == net && length + PAD_BYTES <= BLOCK_BYTES) {
                    int cell = board.padCell(p);
                    bytes[length] = board.pads.at(p, 0);
                    bytes[length + 1] = board.pads.at(p, 1);
                    bytes[length + 2] = board.layerOf(cell);
                    bytes[length + 3] = 16 * board.rowOf(cell) + board.columnOf(cell);
                    length += PAD_BYTES;
                }
            }
            return length;
        }

        private int sameBlock(int length) {
            for (int b = 0; b < blockCount; b++) {
                boolean same = there[b] && blockLengths[b] == length;
                for (int i = 0; i < length && same; i++) {
                    same = blockBytes[b * BLOCK_BYTES + i] == bytes[i];
                }
                if (same) {
                    return b;
                }
            }
            return NONE;
        }

        private void recordBlock(int length) {
            int old = sameBlock(length);
            if (old != NONE) {
                record(OLD_BLOCK, old);
                return;
            }
            int from = logLength;
            addToLog(NEW_BLOCK);
            addToLog(length);
            for (int i = 0; i < length; i++) {
                addToLog(bytes[i]);
            }
            redoRecord(from);
        }

        /** Adds a record of one byte, or (a value that is not NONE) of two, and does what it tells. */
        private void record(int kind, int value) {
            int from = logLength;
            addToLog(kind);
            if (value != NONE) {
                addToLog(value);
            }
            redoRecord(from);
        }

        private void addToLog(int value) {
            if (logLength < LOG) {
                log[logLength] = value;
                logLength++;
            }
        }

        /** Does what the record at a place tells; the place behind it, or NONE when it is not whole. */
        private int redoRecord(int at) {
            int size = recordSize(at);
            if (size == NONE || at + size > logLength) {
                return NONE;
            }
            switch (log[at]) {
                case NEW_BLOCK:
                    addBlock(at + 2, log[at + 1]);
                    break;
                case OLD_BLOCK:
                    addToRow(log[at + 1]);
                    break;
                case CLOSED:
                    closeRow();
                    break;
                case DROPPED:
                    forgetRow(log[at + 1]);
                    break;
                default:
                    forgetBlocks();
            }
            return at + size;
        }

        private int recordSize(int at) {
            if (at < 0 || at >= logLength) {
                return NONE;
            }
            switch (log[at]) {
                case NEW_BLOCK: return at + 1 < logLength ? 2 + log[at + 1] : NONE;
                case OLD_BLOCK: return 2;
                case CLOSED: return 1;
                case DROPPED: return 2;
                case SWEPT: return 1;
                default: return NONE;
            }
        }

        private void addBlock(int from, int length) {
            int block = blockCount;
            if (block >= BLOCKS || length > BLOCK_BYTES) {
                return;
            }
            for (int i = 0; i < length; i++) {
                blockBytes[block * BLOCK_BYTES + i] = log[from + i];
            }
            blockLengths[block] = length;
            there[block] = true;
            blockCount++;
            addToRow(block);
        }

        private void addToRow(int block) {
            int length = rowLengths[editionCount];
            if (length < ROW_BLOCKS && block < blockCount) {
                rows[editionCount * ROW_BLOCKS + length] = block;
                rowLengths[editionCount] = length + 1;
            }
        }

        private void closeRow() {
            if (editionCount < EDITIONS) {
                editionCount++;
                rowLengths[editionCount] = 0;
                dropped[editionCount] = false;
            }
        }

        private void forgetRow(int edition) {
            if (edition < editionCount) {
                dropped[edition] = true;
                rowLengths[edition] = 0;
            }
        }

        private int forgetBlocks() {
            int count = 0;
            for (int b = 0; b < blockCount; b++) {
                if (there[b] && !isUsed(b)) {
                    there[b] = false;
                    count++;
                }
            }
            return count;
        }

        private boolean isUsed(int block) {
            boolean used = false;
            for (int row = 0; row <= editionCount; row++) {
                for (int n = 0; n < rowLengths[row]; n++) {
                    used = used || rows[row * ROW_BLOCKS + n] == block;
                }
            }
            return used;
        }

        private boolean isEdition(int edition) {
            return edition >= 0 && edition < editionCount;
        }

        int dropEdition(int edition) {
            if (crashed) {
                return -NOT_YET;
            }
            if (!isEdition(edition)) {
                return -NOT_SO;
            }
            if (dropped[edition]) {
                return -TAKEN;
            }
            if (logLength + 2 > LOG) {
                return -FULL;
            }
            record(DROPPED, edition);
            return DID;
        }

        int sweepBlocks() {
            if (crashed) {
                return -NOT_YET;
            }
            if (logLength + 1 > LOG) {
                return -FULL;
            }
            addToLog(SWEPT);
            return forgetBlocks();
        }

        int lose(int kept) {
            if (crashed) {
                return -NOT_YET;
            }
            if (kept < 0 || kept > logLength) {
                return -NOT_SO;
            }
            if (crashes >= CRASHES) {
                return -FULL;
            }
            crashes++;
            crashed = true;
            logLength = kept;
            return DID;
        }

        int redo() {
            if (!crashed) {
                return -NOT_YET;
            }
            crashed = false;
            blockCount = 0;
            editionCount = 0;
            rowLengths[0] = 0;
            dropped[0] = false;
            int whole = 0;
            int at = 0;
            for (int n = 0; n <= LOG && at != NONE; n++) {
                whole = at;
                at = redoRecord(whole);
            }
            logLength = whole;
            return editionCount;
        }

        int byteOf(int edition, int i) {
            if (crashed || !isEdition(edition) || i < 0) {
                return NONE;
            }
            int left = i;
            for (int n = 0; n < rowLengths[edition]; n++) {
                int block = rows[edition * ROW_BLOCKS + n];
                if (left < blockLengths[block]) {
                    return blockBytes[block * BLOCK_BYTES + left];
                }
                left -= blockLengths[block];
            }
            return NONE;
        }

        int putBack(int edition, Board board) {
            if (board.number == NONE || crashed) {
                return -NOT_YET;
            }
            if (!isEdition(edition)) {
                return -NOT_SO;
            }
            int count = 0;
            for (int at = 0; at < ROW_BLOCKS * BLOCK_BYTES && byteOf(edition, at + 3) != NONE; at += PAD_BYTES) {
                int place = byteOf(edition, at + 3);
                int pad = board.addPad(byteOf(edition, at), byteOf(edition, at + 1), byteOf(edition, at + 2),
                    place % 16, place / 16);
                count += pad >= 0 ? 1 : 0;
            }
            return count;
        }
    }

    /** Releases of cuts: trees of digests over their leaves, approvals, and serial numbers. */
    private static final class Releases {
        private static final int ROOM = 10;
        private static final int TEXT = 512;
        private static final int LEAF = 64;
        private static final int DIGEST = 32;
        // the digests of 8 leaves, and of the rows above them
        private static final int TREE = 15 * DIGEST;
        private static final int PEOPLE = 16;
        private static final int ROLES = 4;
        private static final int SERIALS = 60;
        private static final int STEP = 1 + DIGEST;
        private static final int CHECK_ROOM = 4 + LEAF + 1 + 4 * STEP;
        private static final int WORDS = 64;
        private static final int[] START = {
            0x6a09e667, 0xbb67ae85, 0x3c6ef372, 0xa54ff53a, 0x510e527f, 0x9b05688c, 0x1f83d9ab, 0x5be0cd19
        };
        private static final int[] ROUND_WORDS = {
            0x428a2f98, 0x71374491, 0xb5c0fbcf, 0xe9b5dba5, 0x3956c25b, 0x59f111f1, 0x923f82a4, 0xab1c5ed5,
            0xd807aa98, 0x12835b01, 0x243185be, 0x550c7dc3, 0x72be5d74, 0x80deb1fe, 0x9bdc06a7, 0xc19bf174,
            0xe49b69c1, 0xefbe4786, 0x0fc19dc6, 0x240ca1cc, 0x2de92c6f, 0x4a7484aa, 0x5cb0a9dc, 0x76f988da,
            0x983e5152, 0xa831c66d, 0xb00327c8, 0xbf597fc7, 0xc6e00bf3, 0xd5a79147, 0x06ca6351, 0x14292967,
            0x27b70a85, 0x2e1b2138, 0x4d2c6dfc, 0x53380d13, 0x650a7354, 0x766a0abb, 0x81c2c92e, 0x92722c85,
            0xa2bfe8a1, 0xa81a664b, 0xc24b8b70, 0xc76c51a3, 0xd192e819, 0xd6990624, 0xf40e3585, 0x106aa070,
            0x19a4c116, 0x1e376c08, 0x2748774c, 0x34b0bcb5, 0x391c0cb3, 0x4ed8aa4a, 0x5b9cca4f, 0x682e6ff3,
            0x748f82ee, 0x78a5636f, 0x84c87814, 0x8cc70208, 0x90befffa, 0xa4506ceb, 0xbef9a3f7, 0xc67178f2
        };

        private int count;
        private final char[] texts = new char[ROOM * TEXT];
        private final int[] lengths = new int[ROOM];
        private final int[] trees = new int[ROOM * TREE];
        private final int[] roles = new int[ROOM * PEOPLE]; // NONE where one has not approved
        private final boolean[] withdrawn = new boolean[ROOM];
        private int serials;
        private final int[] message = new int[2 * LEAF];
        private int messageLength;
        private final int[] state = new int[START.length];
        private final int[] words = new int[WORDS];
        private final int[] digest = new int[DIGEST];
        private final int[] bytes = new int[CHECK_ROOM];
        private int byteCount;

        int add(Cut cut, boolean due) {
            cut.writeDrill(0);
            if (count >= ROOM || cut.drillLength > TEXT) {
                return -FULL;
            }
            if (!due) {
                return -NOT_DUE;
            }
            int release = count;
            count++;
            lengths[release] = cut.drillLength;
            for (int i = 0; i < cut.drillLength; i++) {
                texts[release * TEXT + i] = cut.drillText[i];
            }
            for (int p = 0; p < PEOPLE; p++) {
                roles[release * PEOPLE + p] = NONE;
            }
            withdrawn[release] = false;
            growTree(release);
            return release;
        }

        private boolean isRelease(int release) {
            return release >= 0 && release < count;
        }

        private int leavesOf(int release) {
            return isRelease(release) ? (lengths[release] + LEAF - 1) / LEAF : 0;
        }

        private int leafLength(int release, int leaf) {
            return Math.min(LEAF, lengths[release] - leaf * LEAF);
        }

        private void growTree(int release) {
            int wide = leavesOf(release);
            int to = release * TREE;
            for (int leaf = 0; leaf < wide; leaf++) {
                beginLeaf(leaf);
                for (int i = 0; i < leafLength(release, leaf); i++) {
                    addByte(texts[release * TEXT + leaf * LEAF + i]);
                }
                makeDigest();
                System.arraycopy(digest, 0, trees, to, DIGEST);
                to += DIGEST;
            }
            int from = release * TREE;
            for (int n = 0; n < TREE && wide > 1; n++) {
                int above = (wide + 1) / 2;
                for (int k = 0; k < above; k++) {
                    makeAbove(from, k, wide);
                    System.arraycopy(digest, 0, trees, to, DIGEST);
                    to += DIGEST;
                }
                from += wide * DIGEST;
                wide = above;
            }
        }

        private void beginLeaf(int name) {
            messageLength = 0;
            addByte(0);
            addByte(name / 256);
            addByte(name % 256);
        }

        /** The digest above two of a row, or the last one of it as it is. */
        private void makeAbove(int row, int k, int wide) {
            int first = row + 2 * k * DIGEST;
            if (2 * k + 1 < wide) {
                messageLength = 0;
                addByte(1);
                for (int i = 0; i < 2 * DIGEST; i++) {
                    addByte(trees[first + i]);
                }
                makeDigest();
            } else {
                System.arraycopy(trees, first, digest, 0, DIGEST);
            }
        }

        /** Where in trees the root is. */
        private int rootAt(int release) {
            int wide = leavesOf(release);
            int at = release * TREE;
            for (int n = 0; n < TREE && wide > 1; n++) {
                at += wide * DIGEST;
                wide = (wide + 1) / 2;
            }
            return at;
        }

        int rootByte(int release, int i) {
            return isRelease(release) && i >= 0 && i < DIGEST ? trees[rootAt(release) + i] : NONE;
        }

        // ---- proofs ----

        private boolean isLeaf(int release, int leaf) {
            return leaf >= 0 && leaf < leavesOf(release);
        }

        private void keepByte(int value) {
            if (byteCount < CHECK_ROOM) {
                bytes[byteCount] = value;
                byteCount++;
            }
        }

        private void addProof(int release, int leaf) {
            int stepsAt = byteCount;
            keepByte(0);
            int wide = leavesOf(release);
            int at = release * TREE;
            int k = leaf;
            for (int n = 0; n < TREE && wide > 1; n++) {
                int other = k % 2 == 0 ? k + 1 : k - 1;
                if (other < wide) {
                    bytes[stepsAt]++;
                    keepByte(other < k ? 0 : 1);
                    for (int i = 0; i < DIGEST; i++) {
                        keepByte(trees[at + other * DIGEST + i]);
                    }
                }
                at += wide * DIGEST;
                wide = (wide + 1) / 2;
                k /= 2;
            }
        }

        int proofByte(int release, int leaf, int i) {
            if (!isLeaf(release, leaf)) {
                return NONE;
            }
            byteCount = 0;
            addProof(release, leaf);
            return i >= 0 && i < byteCount ? bytes[i] : NONE;
        }

        int checkHolds(int release, int leaf, int place, int mask) {
            if (!isLeaf(release, leaf)) {
                return NONE;
            }
            byteCount = 0;
            keepByte(release);
            keepByte(leaf / 256);
            keepByte(leaf % 256);
            keepByte(leafLength(release, leaf));
            for (int i = 0; i < leafLength(release, leaf); i++) {
                keepByte(texts[release * TEXT + leaf * LEAF + i]);
            }
            addProof(release, leaf);
            if (place < NONE || place >= byteCount) {
                return NONE;
            }
            if (place != NONE) {
                bytes[place] ^= mask & 255;
            }
            return isCheck() && provesRoot() ? 1 : 0;
        }

        /** Whether bytes have the form of a check of a release that is there. */
        private boolean isCheck() {
            int stepsAt = 4 + bytes[3];
            if (!isRelease(bytes[0]) || bytes[3] > LEAF || stepsAt >= byteCount) {
                return false;
            }
            boolean good = byteCount == stepsAt + 1 + bytes[stepsAt] * STEP;
            for (int at = stepsAt + 1; at < byteCount && good; at += STEP) {
                good = bytes[at] <= 1;
            }
            return good;
        }

        private boolean provesRoot() {
            int stepsAt = 4 + bytes[3];
            beginLeaf(bytes[1] * 256 + bytes[2]);
            for (int i = 4; i < stepsAt; i++) {
                addByte(bytes[i]);
            }
            makeDigest();
            for (int at = stepsAt + 1; at + STEP <= byteCount; at += STEP) {
                takeStep(at);
            }
            boolean same = true;
            for (int i = 0; i < DIGEST && same; i++) {
                same = digest[i] == rootByte(bytes[0], i);
            }
            return same;
        }

        private void takeStep(int at) {
            boolean otherAhead = bytes[at] == 0;
            messageLength = 0;
            addByte(1);
            for (int i = 0; i < 2 * DIGEST; i++) {
                boolean ofOther = i < DIGEST == otherAhead;
                addByte(ofOther ? bytes[at + 1 + i % DIGEST] : digest[i % DIGEST]);
            }
            makeDigest();
        }

        // ---- approvals ----

        int takeApproval(int release, int person, int role) {
            boolean fair = person >= 0 && person < PEOPLE && role >= 0 && role < ROLES;
            if (!isRelease(release) || !fair) {
                return -NOT_SO;
            }
            roles[release * PEOPLE + person] = role;
            return isApproved(release) ? 1 : 0;
        }

        private boolean isApproved(int release) {
            int role = NONE;
            boolean unlike = false;
            for (int p = 0; p < PEOPLE; p++) {
                int other = roles[release * PEOPLE + p];
                if (other != NONE) {
                    unlike = unlike || (role != NONE && role != other);
                    role = other;
                }
            }
            return unlike;
        }

        int takeBack(int release) {
            if (!isRelease(release)) {
                return -NOT_SO;
            }
            if (withdrawn[release]) {
                return -TAKEN;
            }
            withdrawn[release] = true;
            return DID;
        }

        int nextSerial(int release) {
            if (!isRelease(release)) {
                return -NOT_SO;
            }
            if (serials >= SERIALS) {
                return -FULL;
            }
            if (withdrawn[release] || !isApproved(release)) {
                return -NOT_DUE;
            }
            serials++;
            return serials - 1;
        }

        // ---- digests ----

        private void addByte(int value) {
            if (messageLength < message.length) {
                message[messageLength] = value & 255;
                messageLength++;
            }
        }

        /** The digest of the message; it is filled up, and used up. */
        private void makeDigest() {
            int bits = messageLength * 8;
            addByte(128);
            for (int n = 0; n < LEAF && messageLength % LEAF != LEAF - 8; n++) {
                addByte(0);
            }
            for (int shift = 56; shift >= 0; shift -= 8) {
                addByte(shift < 32 ? bits >>> shift : 0);
            }
            System.arraycopy(START, 0, state, 0, START.length);
            for (int from = 0; from + LEAF <= messageLength; from += LEAF) {
                fillWords(from);
                mixWords();
            }
            for (int i = 0; i < DIGEST; i++) {
                digest[i] = state[i / 4] >>> 24 - i % 4 * 8 & 255;
            }
        }

        private void fillWords(int from) {
            for (int w = 0; w < 16; w++) {
                int at = from + 4 * w;
                words[w] = message[at] << 24 | message[at + 1] << 16 | message[at + 2] << 8 | message[at + 3];
            }
            for (int w = 16; w < WORDS; w++) {
                int early = words[w - 15];
                int late = words[w - 2];
                int smallEarly = turned(early, 7) ^ turned(early, 18) ^ early >>> 3;
                int smallLate = turned(late, 17) ^ turned(late, 19) ^ late >>> 10;
                words[w] = words[w - 16] + smallEarly + words[w - 7] + smallLate;
            }
        }

        private static int turned(int word, int by) {
            return word >>> by | word << 32 - by;
        }

        private void mixWords() {
            int a = state[0];
            int b = state[1];
            int c = state[2];
            int d = state[3];
            int e = state[4];
            int f = state[5];
            int g = state[6];
            int h = state[7];
            for (int w = 0; w < WORDS; w++) {
                int bigE = turned(e, 6) ^ turned(e, 11) ^ turned(e, 25);
                int first = h + bigE + (e & f ^ ~e & g) + ROUND_WORDS[w] + words[w];
                int bigA = turned(a, 2) ^ turned(a, 13) ^ turned(a, 22);
                int second = bigA + (a & b ^ a & c ^ b & c);
                h = g;
                g = f;
                f = e;
                e = d + first;
                d = c;
                c = b;
                b = a;
                a = first + second;
            }
            state[0] += a;
            state[1] += b;
            state[2] += c;
            state[3] += d;
            state[4] += e;
            state[5] += f;
            state[6] += g;
            state[7] += h;
        }
    }
}
