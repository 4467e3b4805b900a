/** The sentences of promises 12 to 34, of walkers: a test each. */
public final class WalkerSentencesTest extends Sentences {
    private static final String NO_WALKER = "Throws `IndexOutOfBoundsException` if there is no such WALKER";
    private static final String NO_WALKER_OR_TEXT = "Throws `IndexOutOfBoundsException` if there is no such WALKER or TEXT";
    private static final String NO_WALKERS = "Throws `IndexOutOfBoundsException` if there is no such WALKER as walker or other";
    private static final String NO_SUCH_SET = "Throws `IllegalArgumentException` if set is not 0 to 255";
    private static final String TOO_MANY = "Throws `IllegalArgumentException` if many is not 1 to 24";

    private interface PairedCall {
        Object on(Tokenwalk x, int walker, int second);
    }

    public static void main(String[] args) {
        begin();
        beginBy();
        beginPlain();
        beginLike();
        next(16, "Tells the next PIECE.", (x, walker) -> x.next(walker));
        nextBy();
        next(18, "Tells the next PIECE, as the next THING of a row of things.", (x, walker) -> x.thing(walker));
        nextLength();
        nextFirst();
        isNext();
        skip();
        rest(23, "Tells all PIECES that are left (never with a REFUSAL).", (x, walker) -> x.rest(walker));
        rest(24, "Tells all THINGS that are left, one by one, as long as there is one (never with a REFUSAL).",
            (x, walker) -> x.things(walker));
        both();
        has(26, "Returns whether there is a PIECE more.", (x, walker) -> x.has(walker));
        has(27, "Returns whether there is a THING more: a PIECE.", (x, walker) -> x.hasThing(walker));
        count();
        askOften();
        had();
        setOf();
        isKeeping();
        textOf();
        areEven();
        finish("WalkerSentencesTest", 12, 34);
    }

    // ---- who is not there

    private static void needsWalker(int promise, IndexedCall call) {
        says(promise, NO_WALKER, () -> takesOnly(0, 3, INDEX, call));
    }

    private static void needsBoth(int promise, String sentence, PairedCall call) {
        says(promise, sentence, () -> {
            takesOnly(0, 3, INDEX, (x, walker) -> call.on(x, walker, 0));
            takesOnly(0, 3, INDEX, (x, second) -> call.on(x, 0, second));
            // a walker at its end must not be BEGUN again, nor one in its midst go on
            for (int walker = 0; walker < 4; walker++) {
                int inPlace = walker;
                refusesEach(INDEX, NO_INDEX, (x, second) -> call.on(x, inPlace, second));
            }
        });
    }

    private static void needsSet(int promise, IndexedCall call) {
        says(promise, NO_SUCH_SET, () -> takesOnly(0, 255, ARGUMENT, call));
    }

    private static void needsMany(int promise, IndexedCall call) {
        says(promise, TOO_MANY, () -> takesOnly(1, 24, ARGUMENT, call));
    }

    // ---- walkers begin

    private static void begin() {
        says(12, "A WALKER is BEGUN with a TEXT, a SET, KEEPING or not.", () -> {
            Tokenwalk x = prepared();
            x.begin(1, 1, 160, true);
            isBegun(x, 1, "a b\tc\n", 160, true);
            due(x.rest(1), "a| |b\tc|\n");
            x.begin(1, 0, 24, false);
            isBegun(x, 1, "ab,,c;a,,", 24, false);
            due(x.rest(1), "ab|c|a");
            isOnItsWay(x);
        });
        says(12, "Returns COUNT.", () -> {
            Tokenwalk x = prepared();
            due(x.begin(0, 3, 0, true), 0);
            due(x.begin(0, 3, 255, false), 0);
            due(x.begin(0, 2, 32, true), 24);
            due(x.begin(0, 2, 32, false), 0);
            due(x.begin(0, 2, 0, true), 1);
            due(x.begin(0, 2, 0, false), 1);
            due(x.begin(3, 0, 8, true), 6);
            due(x.begin(3, 0, 8, false), 2);
            due(x.begin(3, 0, 255, true), 9);
            due(x.begin(3, 0, 255, false), 0);
        });
        needsBoth(12, NO_WALKER_OR_TEXT, (x, walker, text) -> x.begin(walker, text, 8, true));
        needsSet(12, (x, set) -> x.begin(0, 1, set, true));
    }

    private static void beginBy() {
        says(13, "A WALKER is BEGUN with a TEXT and a SET, not KEEPING.", () -> {
            Tokenwalk x = prepared();
            x.beginBy(1, 1, 160);
            isBegun(x, 1, "a b\tc\n", 160, false);
            due(x.rest(1), "a|b\tc");
            x.beginBy(1, 3, 255);
            isBegun(x, 1, "", 255, false);
            isOnItsWay(x);
        });
        says(13, "Returns COUNT.", () -> {
            Tokenwalk x = prepared();
            due(x.beginBy(0, 3, 0), 0);
            due(x.beginBy(0, 2, 32), 0);
            due(x.beginBy(0, 2, 0), 1);
            due(x.beginBy(1, 0, 8), 2);
            due(x.beginBy(1, 0, 255), 0);
            due(x.beginBy(1, 0, 1), 2);
            due(x.isKeeping(1), false);
        });
        needsBoth(13, NO_WALKER_OR_TEXT, (x, walker, text) -> x.beginBy(walker, text, 8));
        needsSet(13, (x, set) -> x.beginBy(1, 1, set));
    }

    private static void beginPlain() {
        says(14, "A WALKER is BEGUN with a TEXT and PLAIN, not KEEPING.", () -> {
            Tokenwalk x = prepared();
            x.beginPlain(1, 1);
            isBegun(x, 1, "a b\tc\n", 224, false);
            due(x.rest(1), "a|b|c");
            x.beginPlain(1, 0);
            isBegun(x, 1, "ab,,c;a,,", 224, false);
            isOnItsWay(x);
        });
        says(14, "Returns COUNT.", () -> {
            Tokenwalk x = prepared();
            due(x.beginPlain(1, 3), 0);
            due(x.beginPlain(1, 2), 0);
            due(x.beginPlain(1, 0), 1);
            due(x.beginPlain(1, 1), 3);
            due(x.isKeeping(1), false);
            due(x.setOf(1), 224);
            x.wipe(2);
            x.typeRow(2, 0, 10);
            x.typeOften(2, 5, 14);
            due(x.beginPlain(0, 2), 1);
        });
        needsBoth(14, NO_WALKER_OR_TEXT, (x, walker, text) -> x.beginPlain(walker, text));
    }

    /** This one stands at its first place, with just this. */
    private static void isBegun(Tokenwalk x, int walker, String text, int set, boolean isKeeping) {
        due(x.textOf(walker), text);
        due(x.setOf(walker), set);
        due(x.isKeeping(walker), isKeeping);
        due(x.had(walker), 0);
    }

    /** Nothing was done to WALKER 0 of a prepared object. */
    private static void isOnItsWay(Tokenwalk x) {
        due(x.setOf(0), 8);
        due(x.had(0), 1);
        due(x.nextBy(0, 0), ",,c;a,,");
    }

    private static void beginLike() {
        says(15, "A WALKER is BEGUN with what another one has: its TEXT, its SET as it is then, KEEPING or not.", () -> {
            Tokenwalk x = prepared();
            x.drop(0, 3);
            x.nextBy(1, 16);
            x.beginLike(2, 1);
            isBegun(x, 2, "ab,,c;a,,", 16, true);
            due(x.rest(2), "ab,,c|;|a,,");
            due(x.rest(1), ";|a,,");
            x.beginLike(1, 0);
            isBegun(x, 1, "ab,,c;a,,", 8, false);
            due(x.rest(1), "ab|c;a");
            isOnItsWay(x);
        });
        says(15, "- `other`: the other one (perhaps the same)", () -> {
            Tokenwalk x = prepared();
            due(x.beginLike(1, 1), 6);
            due(x.had(1), 0);
            due(x.textOf(1), "ab,,c;a,,");
            due(x.setOf(1), 8);
            due(x.isKeeping(1), true);
            due(x.next(1), "ab");
            due(x.beginLike(3, 3), 2);
            due(x.rest(3), "ab,,c|a,,");
        });
        says(15, "Returns COUNT.", () -> {
            Tokenwalk x = prepared();
            x.wipe(0);
            due(x.beginLike(2, 1), 6);
            due(x.count(1), 4);
            due(x.beginLike(2, 3), 2);
            due(x.beginLike(2, 0), 2);
            x.nextBy(0, 255);
            due(x.beginLike(2, 0), 0);
            x.beginPlain(0, 3);
            due(x.beginLike(2, 0), 0);
            x.begin(0, 2, 32, true);
            x.rest(0);
            due(x.beginLike(2, 0), 24);
        });
        needsBoth(15, NO_WALKERS, (x, walker, other) -> x.beginLike(walker, other));
    }

    // ---- walkers go

    private static void next(int promise, String sentence, TellingCall call) {
        says(promise, sentence, () -> {
            Tokenwalk x = prepared();
            for (String piece : new String[] {",", "c;a", ",", ","}) {
                due(call.on(x, 1), piece);
            }
            for (String piece : new String[] {"a", "b", "c"}) {
                due(call.on(x, 2), piece);
            }
            due(x.had(1), 6);
            due(x.had(2), 3);
            due(x.house(3), 0);
            isOnItsWay(x);
        });
        says(promise, "Returns it; \"\" with a REFUSAL.", () -> {
            Tokenwalk x = prepared();
            due(call.on(x, 0), "c;a");
            due(call.on(x, 0), "");
            due(x.had(0), 0);
            due(call.on(x, 0), "ab");
            due(call.on(x, 3), "");
            due(call.on(x, 3), "ab,,c");
            due(x.house(3), 2);
            x.beginPlain(2, 3);
            due(call.on(x, 2), "");
            due(call.on(x, 2), "");
            due(x.house(3), 4);
            x.begin(2, 2, 0, true);
            due(call.on(x, 2), BLANKS);
            due(call.on(x, 2), "");
        });
        needsWalker(promise, (x, walker) -> call.on(x, walker));
    }

    private static void nextBy() {
        says(17, "Has another SET from now on, and tells the next PIECE by that.", () -> {
            Tokenwalk x = prepared();
            due(x.nextBy(1, 16), ",c");
            due(x.setOf(1), 16);
            due(x.next(1), ";");
            due(x.count(1), 1);
            due(x.nextBy(1, 8), "a");
            due(x.rest(1), ",|,");
            due(x.had(1), 7);
            due(x.nextBy(2, 64), "a b");
            due(x.thing(2), "c\n");
            isOnItsWay(x);
        });
        says(17, "Returns it; \"\" with a REFUSAL (it has that SET then, too).", () -> {
            Tokenwalk x = prepared();
            due(x.nextBy(0, 16), ",,c");
            due(x.setOf(0), 16);
            due(x.nextBy(0, 255), "");
            due(x.setOf(0), 255);
            due(x.had(0), 0);
            due(x.house(3), 1);
            due(x.next(0), "");
            due(x.nextBy(0, 0), "ab,,c;a,,");
            due(x.nextBy(3, 1), "");
            due(x.setOf(3), 1);
            due(x.count(3), 2);
            due(x.next(3), "b,,c;");
            due(x.nextBy(1, 0), ",c;a,,");
            due(x.nextBy(1, 8), "");
            due(x.isKeeping(1), true);
            due(x.count(1), 6);
        });
        needsWalker(17, (x, walker) -> x.nextBy(walker, 8));
        says(17, NO_SUCH_SET, () -> {
            takesOnly(0, 255, ARGUMENT, (x, set) -> x.nextBy(0, set));
            refusesEach(ARGUMENT, NO_SET, (x, set) -> x.nextBy(3, set));
        });
    }

    private static void nextLength() {
        says(19, "Tells the next PIECE, by how long it is.", () -> {
            Tokenwalk x = prepared();
            for (int length : new int[] {1, 3, 1, 1}) {
                due(x.nextLength(1), length);
            }
            due(x.had(1), 6);
            due(x.nextLength(2), 1);
            due(x.next(2), "b");
            isOnItsWay(x);
        });
        says(19, "Returns how many SIGNS it has; 0 with a REFUSAL.", () -> {
            Tokenwalk x = prepared();
            due(x.nextLength(0), 3);
            due(x.nextLength(0), 0);
            due(x.had(0), 0);
            due(x.house(3), 1);
            due(x.nextLength(1), 1);
            due(x.nextLength(3), 0);
            due(x.nextLength(3), 5);
            x.beginBy(2, 2, 0);
            due(x.nextLength(2), 24);
            due(x.nextLength(2), 0);
            x.beginBy(2, 3, 0);
            due(x.nextLength(2), 0);
        });
        needsWalker(19, (x, walker) -> x.nextLength(walker));
    }

    private static void nextFirst() {
        says(20, "Tells the next PIECE, by its first SIGN.", () -> {
            Tokenwalk x = prepared();
            for (int sign : new int[] {3, 2, 3, 3}) {
                due(x.nextFirst(1), sign);
            }
            due(x.had(1), 6);
            due(x.nextFirst(2), 0);
            due(x.next(2), "b");
            isOnItsWay(x);
        });
        says(20, "Returns that; NONE with a REFUSAL.", () -> {
            Tokenwalk x = typed("abc,; \t\n");
            x.begin(0, 0, 255, true);
            for (int sign = 0; sign < 8; sign++) {
                due(x.nextFirst(0), sign);
            }
            due(x.nextFirst(0), -1);
            due(x.had(0), 0);
            due(x.house(3), 1);
            due(x.nextFirst(0), 0);
            due(x.nextFirst(1), -1);
            x.beginBy(0, 0, 7);
            due(x.nextFirst(0), 3);
            due(x.nextFirst(0), -1);
        });
        needsWalker(20, (x, walker) -> x.nextFirst(walker));
    }

    private static void isNext() {
        says(21, "Returns whether they are the same (with a REFUSAL: whether the TEXT has no SIGNS).", () -> {
            Tokenwalk x = prepared();
            due(x.isNext(3, 3), true);
            due(x.had(3), 0);
            due(x.isNext(3, 3), false);
            due(x.had(3), 1);
            x.rest(3);
            due(x.isNext(3, 2), false);
            due(x.had(3), 0);
            due(x.house(3), 2);
            x.beginBy(2, 2, 0);
            due(x.isNext(2, 2), true);
            due(x.isNext(2, 2), false);
            x.drop(2, 1);
            due(x.isNext(2, 2), false);
            x.type(3, 3);
            due(x.isNext(1, 3), true);
            x.type(3, 0);
            due(x.isNext(1, 3), false);
        });
        says(21, "Tells the next PIECE, and whether it is a TEXT.", () -> {
            Tokenwalk x = typed("abc,bbc,aba,ab,abca,abc");
            type(x, 1, "abc");
            x.beginBy(0, 0, 8);
            for (boolean isSame : new boolean[] {true, false, false, false, false, true}) {
                due(x.isNext(0, 1), isSame);
            }
            due(x.had(0), 6);
        });
        needsBoth(21, NO_WALKER_OR_TEXT, (x, walker, text) -> x.isNext(walker, text));
    }

    private static void skip() {
        says(22, "Tells PIECES, up to so many, as long as there is one (never with a REFUSAL).", () -> {
            Tokenwalk x = prepared();
            x.skip(1, 1);
            due(x.had(1), 3);
            x.skip(1, 24);
            due(x.had(1), 6);
            due(x.count(1), 0);
            x.skip(1, 1);
            due(x.had(1), 6);
            x.skip(0, 24);
            due(x.nextBy(0, 0), ",,");
            due(x.house(3), 0);
        });
        says(22, "- `many`: how many at most", () -> {
            Tokenwalk x = prepared();
            due(x.skip(1, 2), 2);
            due(x.next(1), ",");
            due(x.skip(1, 2), 1);
        });
        says(22, "Returns how many were told.", () -> {
            Tokenwalk x = prepared();
            due(x.skip(0, 1), 1);
            due(x.skip(0, 1), 0);
            due(x.skip(3, 24), 0);
            x.begin(0, 2, 32, true);
            due(x.skip(0, 23), 23);
            due(x.skip(0, 24), 1);
            x.beginLike(0, 0);
            due(x.skip(0, 24), 24);
            x.beginPlain(0, 3);
            due(x.skip(0, 24), 0);
        });
        needsWalker(22, (x, walker) -> x.skip(walker, 1));
        needsMany(22, (x, many) -> x.skip(0, many));
    }

    private static void rest(int promise, String neverRefused, TellingCall call) {
        says(promise, neverRefused, () -> {
            Tokenwalk x = prepared();
            for (int walker = 0; walker < 4; walker++) {
                call.on(x, walker);
                call.on(x, walker);
                due(x.count(walker), 0);
            }
            due(x.had(0), 2);
            due(x.had(1), 6);
            due(x.had(2), 3);
            due(x.had(3), 2);
            due(x.house(3), 0);
            due(x.nextBy(0, 0), ",,");
        });
        says(promise, "Returns these; \"\" without any.", () -> {
            Tokenwalk x = prepared();
            due(call.on(x, 0), "c;a");
            due(call.on(x, 0), "");
            due(call.on(x, 1), ",|c;a|,|,");
            due(call.on(x, 2), "a|b|c");
            due(call.on(x, 3), "");
            x.begin(3, 2, 32, true);
            due(call.on(x, 3), BARRED_BLANKS);
            x.beginBy(3, 2, 32);
            due(call.on(x, 3), "");
            x.beginPlain(3, 3);
            due(call.on(x, 3), "");
        });
        needsWalker(promise, (x, walker) -> call.on(x, walker));
    }

    private static void both() {
        says(25, "Two WALKERS tell PIECES in turn, one each, the first one first, till the one whose turn it is has none (never with a REFUSAL; it may be the same one twice).", () -> {
            Tokenwalk x = prepared();
            due(x.both(1, 1), ",|c;a|,|,");
            due(x.had(1), 6);
            due(x.both(1, 1), "");
            due(x.had(1), 6);
            x = prepared();
            due(x.both(0, 2), "c;a|a");
            due(x.had(0), 2);
            due(x.had(2), 1);
            x = prepared();
            due(x.both(2, 0), "a|c;a|b");
            due(x.had(2), 2);
            due(x.had(0), 2);
            due(x.nextBy(0, 0), ",,");
            due(x.house(3), 0);
        });
        says(25, "Returns all these; \"\" without any.", () -> {
            Tokenwalk x = prepared();
            due(x.both(3, 1), "");
            due(x.had(1), 2);
            due(x.both(1, 3), ",");
            due(x.both(3, 3), "");
            x.begin(2, 2, 32, true);
            x.begin(3, 2, 32, true);
            due(x.both(2, 3), BARRED_BLANKS + "|" + BARRED_BLANKS);
            x.begin(2, 2, 32, true);
            due(x.both(2, 2), BARRED_BLANKS);
            due(x.house(3), 0);
        });
        needsBoth(25, NO_WALKERS, (x, walker, other) -> x.both(walker, other));
    }

    // ---- what walkers are asked

    private static void has(int promise, String sentence, IndexedCall call) {
        says(promise, sentence, () -> {
            asks(x -> call.on(x, 0), true);
            asks(x -> call.on(x, 2), true);
            asks(x -> call.on(x, 3), false);
            Tokenwalk x = new Tokenwalk();
            due(call.on(x, 0), false);
            x.typeOften(0, 5, 24);
            x.beginPlain(0, 0);
            due(call.on(x, 0), false);
            x.begin(0, 0, 32, true);
            due(call.on(x, 0), true);
            x.skip(0, 23);
            due(call.on(x, 0), true);
            x.skip(0, 1);
            due(call.on(x, 0), false);
            x.next(0);
            due(call.on(x, 0), true);
        });
        needsWalker(promise, call);
    }

    private static void count() {
        says(28, "Returns COUNT.", () -> {
            asks(x -> x.count(0), 1);
            asks(x -> x.count(1), 4);
            asks(x -> x.count(2), 3);
            asks(x -> x.count(3), 0);
            Tokenwalk x = prepared();
            x.begin(0, 2, 32, true);
            due(x.count(0), 24);
            x.beginPlain(0, 3);
            due(x.count(0), 0);
        });
        needsWalker(28, (x, walker) -> x.count(walker));
    }

    private static void askOften() {
        says(29, "Asks for COUNT, then whether there is a PIECE, again and again.", () -> {
            for (int walker = 0; walker < 4; walker++) {
                Tokenwalk x = prepared();
                int each = x.count(walker) + (x.has(walker) ? 1 : 0);
                for (int many = 1; many <= 24; many++) {
                    due(x.askOften(walker, many), many * each);
                }
                due(trace(x), trace(prepared()));
            }
        });
        says(29, "Returns the sum of all COUNTS, and 1 more for each time that there is one.", () -> {
            asks(x -> x.askOften(0, 1), 2);
            asks(x -> x.askOften(1, 24), 120);
            asks(x -> x.askOften(2, 2), 8);
            asks(x -> x.askOften(3, 1), 0);
            asks(x -> x.askOften(3, 24), 0);
            Tokenwalk x = prepared();
            x.begin(0, 2, 32, true);
            due(x.askOften(0, 24), 600);
        });
        needsWalker(29, (x, walker) -> x.askOften(walker, 1));
        needsMany(29, (x, many) -> x.askOften(0, many));
    }

    private static void had() {
        says(30, "Returns HAD.", () -> {
            asks(x -> x.had(0), 1);
            asks(x -> x.had(1), 2);
            asks(x -> x.had(2), 0);
            asks(x -> x.had(3), 2);
            Tokenwalk x = prepared();
            x.next(3);
            due(x.had(3), 0);
            x.begin(3, 2, 32, true);
            x.skip(3, 24);
            due(x.had(3), 24);
            x.next(3);
            due(x.had(3), 0);
        });
        needsWalker(30, (x, walker) -> x.had(walker));
    }

    private static void setOf() {
        says(31, "Returns the SET that it has.", () -> {
            asks(x -> x.setOf(0), 8);
            asks(x -> x.setOf(2), 224);
            asks(x -> x.setOf(3), 16);
            Tokenwalk x = new Tokenwalk();
            due(x.setOf(3), 224);
            x.nextBy(3, 255);
            due(x.setOf(3), 255);
            x.beginBy(3, 0, 0);
            due(x.setOf(3), 0);
            x.beginPlain(3, 0);
            due(x.setOf(3), 224);
        });
        needsWalker(31, (x, walker) -> x.setOf(walker));
    }

    private static void isKeeping() {
        says(32, "Returns whether it is KEEPING.", () -> {
            asks(x -> x.isKeeping(0), false);
            asks(x -> x.isKeeping(1), true);
            Tokenwalk x = prepared();
            x.rest(1);
            x.next(1);
            due(x.isKeeping(1), true);
            x.begin(1, 0, 8, false);
            due(x.isKeeping(1), false);
            x.begin(1, 0, 8, true);
            x.beginBy(1, 0, 8);
            due(x.isKeeping(1), false);
        });
        needsWalker(32, (x, walker) -> x.isKeeping(walker));
    }

    private static void textOf() {
        says(33, "Returns its TEXT (all of it).", () -> {
            asks(x -> x.textOf(1), "ab,,c;a,,");
            asks(x -> x.textOf(2), "a b\tc\n");
            asks(x -> x.textOf(3), "ab,,c;a,,");
            Tokenwalk x = prepared();
            x.beginPlain(3, 2);
            x.wipe(2);
            due(x.textOf(3), BLANKS);
            x.next(3);
            due(x.textOf(3), BLANKS);
            x.beginPlain(3, 2);
            due(x.textOf(3), "");
        });
        needsWalker(33, (x, walker) -> x.textOf(walker));
    }

    private static void areEven() {
        says(34, "Returns whether both have the same COUNT.", () -> {
            asks(x -> x.areEven(0, 1), false);
            asks(x -> x.areEven(1, 0), false);
            asks(x -> x.areEven(3, 3), true);
            Tokenwalk x = prepared();
            x.skip(0, 1);
            due(x.areEven(0, 3), true);
            x.next(1);
            due(x.areEven(1, 2), true);
            x.begin(0, 2, 32, true);
            x.begin(1, 2, 32, true);
            due(x.areEven(0, 1), true);
            x.next(1);
            due(x.areEven(0, 1), false);
        });
        needsBoth(34, NO_WALKERS, (x, walker, other) -> x.areEven(walker, other));
    }
}
