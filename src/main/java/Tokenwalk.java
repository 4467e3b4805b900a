/** Walkers that tell texts of signs piece by piece, as the document's promises 1 to 47 say. */
public final class Tokenwalk {
    private static final int NONE = -1;
    private static final int TEXTS = 4;
    private static final int WALKERS = 4;
    private static final int SIGNS = 8;
    private static final int LONGEST = 24;
    private static final int MOST_DIGITS = 10;
    private static final int PLAIN = 224;
    private static final int LAST_SET = 255;
    private static final int TURN_SET = 24;
    private static final int BLANK_ANSWER = -9;
    private static final int HOUSES = 6;
    private static final long DIGEST_START = 7735L;

    /** The bar between pieces is kept as a ninth sign, so that a row told needs no text of its own. */
    private static final int BAR = 8;
    private static final char[] LETTERS = {'a', 'b', 'c', ',', ';', ' ', '\t', '\n', '|'};

    /** Two walkers may tell 24 pieces each, with a bar between any two. */
    private static final int LONGEST_TOLD = 95;

    private static final int[] SOUND_SETS = {224, 24, 1, 0, 255};
    private static final int[] DIGEST_SETS = {224, 24, 0};

    private final Row[] texts;
    private final Walker[] walkers;

    /** Walks over texts for the calls that take no walker; kept, so that they make no objects. */
    private final Walker visitor;

    /** What a call tells is gathered here; no call looks at what an earlier one left. */
    private final Row told;

    private int refusals;
    private int blanks;
    private int knocks;

    public Tokenwalk() {
        texts = new Row[TEXTS];
        for (int i = 0; i < TEXTS; i++) {
            texts[i] = new Row(LONGEST);
        }
        walkers = new Walker[WALKERS];
        for (int i = 0; i < WALKERS; i++) {
            walkers[i] = new Walker();
        }
        visitor = new Walker();
        told = new Row(LONGEST_TOLD);
    }

    // ---- texts

    public int type(int text, int sign)
            throws IndexOutOfBoundsException, IllegalArgumentException, IllegalStateException {
        Row row = rowOf(text);
        checkSign(sign);
        checkFits(row.size + 1);
        row.put(sign);
        return row.size;
    }

    public int typeOften(int text, int sign, int many)
            throws IndexOutOfBoundsException, IllegalArgumentException, IllegalStateException {
        Row row = rowOf(text);
        checkSign(sign);
        checkWithin(many, 1, LONGEST);
        checkFits(row.size + many);
        for (int i = 0; i < many; i++) {
            row.put(sign);
        }
        return row.size;
    }

    public int typeRow(int text, int number, int many)
            throws IndexOutOfBoundsException, IllegalArgumentException, IllegalStateException {
        Row row = rowOf(text);
        checkWithin(number, 0, Integer.MAX_VALUE);
        checkWithin(many, 1, MOST_DIGITS);
        checkFits(row.size + many);
        int left = number;
        for (int i = 0; i < many; i++) {
            row.put(left % SIGNS);
            left = left / SIGNS;
        }
        return row.size;
    }

    public int drop(int text, int many)
            throws IndexOutOfBoundsException, IllegalArgumentException {
        Row row = rowOf(text);
        checkWithin(many, 1, row.size);
        row.size = row.size - many;
        return row.size;
    }

    public int wipe(int text) throws IndexOutOfBoundsException {
        Row row = rowOf(text);
        int before = row.size;
        row.clear();
        return before;
    }

    public int join(int one, int other, int to)
            throws IndexOutOfBoundsException, IllegalStateException {
        Row first = rowOf(one);
        Row second = rowOf(other);
        Row joined = rowOf(to);
        checkFits(first.size + second.size);
        // the row that becomes both may be one of them, so they are gathered elsewhere first
        told.become(first);
        told.putPart(second, 0, second.size);
        joined.become(told);
        return joined.size;
    }

    public int take(int walker, int text) throws IndexOutOfBoundsException {
        Walker goer = walkerOf(walker);
        Row row = rowOf(text);
        if (stepOrRefuse(goer)) {
            row.clear();
            row.putPart(goer.own, goer.from, goer.place);
        }
        return row.size;
    }

    public int length(int text) throws IndexOutOfBoundsException {
        return rowOf(text).size;
    }

    public int signAt(int text, int place) throws IndexOutOfBoundsException {
        Row row = rowOf(text);
        checkIndex(place, row.size);
        return row.signOn(place);
    }

    public String text(int text) throws IndexOutOfBoundsException {
        return rowOf(text).letters();
    }

    // ---- walkers begin

    public int begin(int walker, int text, int set, boolean isKeeping)
            throws IndexOutOfBoundsException, IllegalArgumentException {
        return startAndCount(walker, text, set, isKeeping);
    }

    public int beginBy(int walker, int text, int set)
            throws IndexOutOfBoundsException, IllegalArgumentException {
        return startAndCount(walker, text, set, false);
    }

    public int beginPlain(int walker, int text) throws IndexOutOfBoundsException {
        return startAndCount(walker, text, PLAIN, false);
    }

    public int beginLike(int walker, int other) throws IndexOutOfBoundsException {
        Walker goer = walkerOf(walker);
        Walker model = walkerOf(other);
        goer.start(model.own, model.set, model.keeping);
        return goer.left();
    }

    // ---- walkers go

    public String next(int walker) throws IndexOutOfBoundsException {
        return tellOne(walkerOf(walker));
    }

    public String nextBy(int walker, int set)
            throws IndexOutOfBoundsException, IllegalArgumentException {
        Walker goer = walkerOf(walker);
        checkSet(set);
        goer.set = set;
        return tellOne(goer);
    }

    public String thing(int walker) throws IndexOutOfBoundsException {
        return tellOne(walkerOf(walker));
    }

    public int nextLength(int walker) throws IndexOutOfBoundsException {
        Walker goer = walkerOf(walker);
        return stepOrRefuse(goer) ? goer.place - goer.from : 0;
    }

    public int nextFirst(int walker) throws IndexOutOfBoundsException {
        Walker goer = walkerOf(walker);
        return stepOrRefuse(goer) ? goer.own.signOn(goer.from) : NONE;
    }

    public boolean isNext(int walker, int text) throws IndexOutOfBoundsException {
        Walker goer = walkerOf(walker);
        Row row = rowOf(text);
        gatherOne(goer);
        return told.matches(row);
    }

    public int skip(int walker, int many)
            throws IndexOutOfBoundsException, IllegalArgumentException {
        Walker goer = walkerOf(walker);
        checkWithin(many, 1, LONGEST);
        return stepUpTo(goer, many);
    }

    public String rest(int walker) throws IndexOutOfBoundsException {
        return tellRest(walkerOf(walker));
    }

    public String things(int walker) throws IndexOutOfBoundsException {
        return tellRest(walkerOf(walker));
    }

    public String both(int walker, int other) throws IndexOutOfBoundsException {
        Walker first = walkerOf(walker);
        Walker second = walkerOf(other);
        told.clear();
        for (int turn = 0; turn < 2 * LONGEST; turn++) {
            Walker goer = turn % 2 == 0 ? first : second;
            if (!goer.step()) {
                break;
            }
            gatherBehindBar(goer);
        }
        return told.letters();
    }

    // ---- what walkers are asked

    public boolean has(int walker) throws IndexOutOfBoundsException {
        return walkerOf(walker).isMore();
    }

    public boolean hasThing(int walker) throws IndexOutOfBoundsException {
        return walkerOf(walker).isMore();
    }

    public int count(int walker) throws IndexOutOfBoundsException {
        return walkerOf(walker).left();
    }

    public int askOften(int walker, int many)
            throws IndexOutOfBoundsException, IllegalArgumentException {
        Walker goer = walkerOf(walker);
        checkWithin(many, 1, LONGEST);
        int sum = 0;
        for (int i = 0; i < many; i++) {
            sum = sum + goer.left() + (goer.isMore() ? 1 : 0);
        }
        return sum;
    }

    public int had(int walker) throws IndexOutOfBoundsException {
        return walkerOf(walker).steps;
    }

    public int setOf(int walker) throws IndexOutOfBoundsException {
        return walkerOf(walker).set;
    }

    public boolean isKeeping(int walker) throws IndexOutOfBoundsException {
        return walkerOf(walker).keeping;
    }

    public String textOf(int walker) throws IndexOutOfBoundsException {
        return walkerOf(walker).own.letters();
    }

    public boolean areEven(int walker, int other) throws IndexOutOfBoundsException {
        Walker first = walkerOf(walker);
        Walker second = walkerOf(other);
        return first.left() == second.left();
    }

    // ---- pieces of texts

    public String pieces(int text, int set, boolean isKeeping)
            throws IndexOutOfBoundsException, IllegalArgumentException {
        Row row = rowOf(text);
        checkSet(set);
        visitor.start(row, set, isKeeping);
        return tellRest(visitor);
    }

    public int countOf(int text, int set, boolean isKeeping)
            throws IndexOutOfBoundsException, IllegalArgumentException {
        Row row = rowOf(text);
        checkSet(set);
        return piecesIn(row, set, isKeeping);
    }

    public String pieceAt(int text, int set, boolean isKeeping, int k)
            throws IndexOutOfBoundsException, IllegalArgumentException {
        Row row = rowOf(text);
        checkSet(set);
        checkWithin(k, 0, LONGEST);
        visitor.start(row, set, isKeeping);
        told.clear();
        if (stepUpTo(visitor, k + 1) == k + 1) {
            gather(visitor);
        }
        return told.letters();
    }

    public String firstThen(int text, int set, int other)
            throws IndexOutOfBoundsException, IllegalArgumentException {
        Row row = rowOf(text);
        checkSet(set);
        checkSet(other);
        visitor.start(row, set, false);
        told.clear();
        if (visitor.step()) {
            gatherBehindBar(visitor);
            visitor.set = other;
            gatherRest(visitor);
        }
        return told.letters();
    }

    public String inTurn(int text, int set, int other)
            throws IndexOutOfBoundsException, IllegalArgumentException {
        Row row = rowOf(text);
        checkSet(set);
        checkSet(other);
        gatherInTurn(row, set, other);
        return told.letters();
    }

    public String whole(int text, int set)
            throws IndexOutOfBoundsException, IllegalArgumentException {
        Row row = rowOf(text);
        checkSet(set);
        gatherWithoutBars(row, set, true);
        return told.letters();
    }

    public String without(int text, int set)
            throws IndexOutOfBoundsException, IllegalArgumentException {
        Row row = rowOf(text);
        checkSet(set);
        gatherWithoutBars(row, set, false);
        return told.letters();
    }

    public boolean areLike(int one, int other, int set)
            throws IndexOutOfBoundsException, IllegalArgumentException {
        Row first = rowOf(one);
        Row second = rowOf(other);
        checkSet(set);
        visitor.start(first, set, false);
        String firstTold = tellRest(visitor);
        visitor.start(second, set, false);
        return firstTold.equals(tellRest(visitor));
    }

    // ---- the way

    public int blank() {
        blanks++;
        return BLANK_ANSWER;
    }

    public int knock() {
        knocks++;
        return knocks;
    }

    public int house(int what) throws IllegalArgumentException {
        checkWithin(what, 0, HOUSES - 1);
        return sumOf(what);
    }

    public boolean isSound() {
        for (Row row : texts) {
            for (int set : SOUND_SETS) {
                if (!isWhole(row, set) || !isWholeInTurn(row, set)
                        || !isCounted(row, set, true) || !isCounted(row, set, false)) {
                    return false;
                }
            }
        }
        for (Walker goer : walkers) {
            // a thing is a piece, so one question answers for both
            if (goer.isMore() != (goer.left() != 0)) {
                return false;
            }
        }
        return true;
    }

    public long digest() {
        long d = DIGEST_START;
        for (int what = 0; what < HOUSES; what++) {
            d = mixed(d, sumOf(what));
        }
        for (Row row : texts) {
            d = mixedWithRow(d, row);
        }
        for (Walker goer : walkers) {
            d = mixedWithWalker(d, goer);
        }
        return mixed(d, isSound() ? 1 : 0);
    }

    // ---- what is refused

    private Row rowOf(int text) {
        checkIndex(text, TEXTS);
        return texts[text];
    }

    private Walker walkerOf(int walker) {
        checkIndex(walker, WALKERS);
        return walkers[walker];
    }

    private static void checkIndex(int index, int many) {
        if (index < 0 || index >= many) {
            throw new IndexOutOfBoundsException("there is none with this number");
        }
    }

    private static void checkWithin(int number, int least, int most) {
        if (number < least || number > most) {
            throw new IllegalArgumentException("the number is too low or too high");
        }
    }

    private static void checkSign(int sign) {
        checkWithin(sign, 0, SIGNS - 1);
    }

    private static void checkSet(int set) {
        checkWithin(set, 0, LAST_SET);
    }

    private static void checkFits(int size) {
        if (size > LONGEST) {
            throw new IllegalStateException("the text would have too many signs");
        }
    }

    // ---- how pieces are told

    private int startAndCount(int walker, int text, int set, boolean isKept) {
        Walker goer = walkerOf(walker);
        Row row = rowOf(text);
        checkSet(set);
        goer.start(row, set, isKept);
        return goer.left();
    }

    private boolean stepOrRefuse(Walker goer) {
        if (goer.step()) {
            return true;
        }
        refusals++;
        goer.restart();
        return false;
    }

    private static int stepUpTo(Walker goer, int many) {
        int done = 0;
        while (done < many && goer.step()) {
            done++;
        }
        return done;
    }

    private String tellOne(Walker goer) {
        gatherOne(goer);
        return told.letters();
    }

    private String tellRest(Walker goer) {
        told.clear();
        gatherRest(goer);
        return told.letters();
    }

    private void gatherOne(Walker goer) {
        told.clear();
        if (stepOrRefuse(goer)) {
            gather(goer);
        }
    }

    private void gatherRest(Walker goer) {
        for (int i = 0; i < LONGEST && goer.step(); i++) {
            gatherBehindBar(goer);
        }
    }

    private void gatherInTurn(Row row, int set, int other) {
        visitor.start(row, set, true);
        told.clear();
        for (int i = 0; i < LONGEST && visitor.step(); i++) {
            gatherBehindBar(visitor);
            visitor.set = i % 2 == 0 ? other : set;
        }
    }

    private void gatherWithoutBars(Row row, int set, boolean isKept) {
        visitor.start(row, set, isKept);
        told.clear();
        for (int i = 0; i < LONGEST && visitor.step(); i++) {
            gather(visitor);
        }
    }

    private void gatherBehindBar(Walker goer) {
        if (told.size > 0) {
            told.put(BAR);
        }
        gather(goer);
    }

    private void gather(Walker goer) {
        told.putPart(goer.own, goer.from, goer.place);
    }

    private int piecesIn(Row row, int set, boolean isKept) {
        visitor.start(row, set, isKept);
        return visitor.left();
    }

    // ---- sums and proofs

    private int sumOf(int what) {
        switch (what) {
            case 0: return signsInTexts();
            case 1: return piecesLeft();
            case 2: return piecesHad();
            case 3: return refusals;
            case 4: return blanks;
            default: return knocks;
        }
    }

    private int signsInTexts() {
        int sum = 0;
        for (Row row : texts) {
            sum = sum + row.size;
        }
        return sum;
    }

    private int piecesLeft() {
        int sum = 0;
        for (Walker goer : walkers) {
            sum = sum + goer.left();
        }
        return sum;
    }

    private int piecesHad() {
        int sum = 0;
        for (Walker goer : walkers) {
            sum = sum + goer.steps;
        }
        return sum;
    }

    private boolean isWhole(Row row, int set) {
        gatherWithoutBars(row, set, true);
        return told.matches(row);
    }

    private boolean isWholeInTurn(Row row, int set) {
        gatherInTurn(row, set, TURN_SET);
        told.clearBars();
        return told.matches(row);
    }

    private boolean isCounted(Row row, int set, boolean isKept) {
        int expected = piecesIn(row, set, isKept);
        return stepUpTo(visitor, LONGEST + 1) == expected;
    }

    private static long mixed(long d, long v) {
        return d * 31L + v;
    }

    private long mixedWithRow(long before, Row row) {
        long d = before;
        for (int i = 0; i < row.size; i++) {
            d = mixed(d, letterOf(row.signOn(i)));
        }
        for (int set : DIGEST_SETS) {
            d = mixed(d, piecesIn(row, set, true));
            d = mixed(d, piecesIn(row, set, false));
        }
        return d;
    }

    private static long mixedWithWalker(long before, Walker goer) {
        long d = mixed(before, goer.left());
        d = mixed(d, goer.steps);
        d = mixed(d, goer.set);
        d = mixed(d, goer.keeping ? 1 : 0);
        return mixed(d, goer.own.size);
    }

    private static char letterOf(int sign) {
        return sign >= 0 && sign < LETTERS.length ? LETTERS[sign] : LETTERS[BAR];
    }

    /** Signs one behind the other, in room that is made once. */
    private static final class Row {
        private final int[] signs;
        private int size;

        Row(int room) {
            signs = new int[Math.max(room, 0)];
        }

        int signOn(int place) {
            return place >= 0 && place < size ? signs[place] : NONE;
        }

        void clear() {
            size = 0;
        }

        void put(int sign) {
            if (size < signs.length) {
                signs[size] = sign;
                size++;
            }
        }

        void putPart(Row source, int start, int end) {
            for (int i = start; i < end; i++) {
                if (i >= 0 && i < source.size && size < signs.length) {
                    signs[size] = source.signs[i];
                    size++;
                }
            }
        }

        void become(Row other) {
            // to clear it first would lose the signs, if it is to become itself
            if (other != this) {
                clear();
                putPart(other, 0, other.size);
            }
        }

        void clearBars() {
            int before = size;
            clear();
            for (int i = 0; i < before; i++) {
                if (signs[i] != BAR) {
                    put(signs[i]);
                }
            }
        }

        boolean matches(Row other) {
            if (size != other.size) {
                return false;
            }
            for (int i = 0; i < size; i++) {
                if (signOn(i) != other.signOn(i)) {
                    return false;
                }
            }
            return true;
        }

        String letters() {
            char[] row = new char[size];
            for (int i = 0; i < size; i++) {
                row[i] = letterOf(signs[i]);
            }
            return new String(row);
        }
    }

    /** One that goes over its own copy of a text. */
    private static final class Walker {
        private final Row own = new Row(LONGEST);
        private int set = PLAIN;
        private boolean keeping;
        private int place;
        private int steps;

        /** Where the piece that was told last starts; it ends at the place. */
        private int from;

        void start(Row row, int by, boolean isKept) {
            own.become(row);
            set = by;
            keeping = isKept;
            restart();
        }

        void restart() {
            place = 0;
            from = 0;
            steps = 0;
        }

        /** Tells the next piece; stays where it is, if there is none. */
        boolean step() {
            int start = startBehind(place);
            if (start >= own.size) {
                return false;
            }
            from = start;
            place = endOf(start);
            steps++;
            return true;
        }

        boolean isMore() {
            return startBehind(place) < own.size;
        }

        int left() {
            int many = 0;
            int start = startBehind(place);
            // no piece is without signs, so there are never more pieces than signs
            while (start < own.size && many < LONGEST) {
                many++;
                start = startBehind(endOf(start));
            }
            return many;
        }

        private int startBehind(int at) {
            int start = at;
            while (!keeping && start < own.size && isParting(start)) {
                start++;
            }
            return start;
        }

        private int endOf(int start) {
            if (isParting(start)) {
                return start + 1;
            }
            int end = start;
            while (end < own.size && !isParting(end)) {
                end++;
            }
            return end;
        }

        private boolean isParting(int at) {
            return at >= 0 && at < own.size && (set >> own.signs[at] & 1) == 1;
        }
    }
}
