import java.util.List;

/** Promise by promise: ordinary inputs, the edges that the document names, and wrong inputs. */
public final class PromiseTest extends Checks {
    public static void main(String[] args) {
        List<Runnable> promises = promises();
        for (int i = 1; i <= promises.size(); i++) {
            check("promise " + i, promises.get(i - 1));
        }
        finish("PromiseTest");
    }

    private static List<Runnable> promises() {
        return List.of(
            PromiseTest::newObject, PromiseTest::type, PromiseTest::typeOften, PromiseTest::typeRow,
            PromiseTest::drop, PromiseTest::wipe, PromiseTest::join, PromiseTest::take,
            PromiseTest::length, PromiseTest::signAt, PromiseTest::text,
            PromiseTest::begin, PromiseTest::beginBy, PromiseTest::beginPlain, PromiseTest::beginLike,
            PromiseTest::next, PromiseTest::nextBy, PromiseTest::thing, PromiseTest::nextLength,
            PromiseTest::nextFirst, PromiseTest::isNext, PromiseTest::skip, PromiseTest::rest,
            PromiseTest::things, PromiseTest::both,
            PromiseTest::has, PromiseTest::hasThing, PromiseTest::count, PromiseTest::askOften,
            PromiseTest::had, PromiseTest::setOf, PromiseTest::isKeeping, PromiseTest::textOf,
            PromiseTest::areEven,
            PromiseTest::pieces, PromiseTest::countOf, PromiseTest::pieceAt, PromiseTest::firstThen,
            PromiseTest::inTurn, PromiseTest::whole, PromiseTest::without, PromiseTest::areLike,
            PromiseTest::blank, PromiseTest::knock, PromiseTest::house, PromiseTest::isSound,
            PromiseTest::digest);
    }

    // ---- promise 1

    private static void newObject() {
        Tokenwalk x = new Tokenwalk();
        for (int i = 0; i < 4; i++) {
            due(x.length(i), 0);
            due(x.text(i), "");
            due(x.textOf(i), "");
            due(x.setOf(i), 224);
            due(x.isKeeping(i), false);
            due(x.count(i), 0);
            due(x.had(i), 0);
            due(x.has(i), false);
        }
        for (int i = 0; i < 6; i++) {
            due(x.house(i), 0);
        }
        Tokenwalk other = new Tokenwalk();
        x.type(0, 1);
        x.blank();
        due(other.length(0), 0);
        due(other.house(4), 0);
    }

    // ---- promises 2 to 11: texts

    private static void type() {
        Tokenwalk x = new Tokenwalk();
        for (int sign = 0; sign < 8; sign++) {
            due(x.type(3, sign), sign + 1);
        }
        due(x.text(3), "abc,; \t\n");
        due(x.length(0), 0);
        for (int i = 8; i < 24; i++) {
            due(x.type(3, 0), i + 1);
        }
        due(x.length(3), 24);
        refusesEach(INDEX, NO_INDEX, (y, i) -> y.type(i, 0));
        refusesEach(ARGUMENT, new int[] {-1, 8, Integer.MIN_VALUE, Integer.MAX_VALUE}, (y, i) -> y.type(0, i));
        refuses(STATE, y -> y.type(2, 0));
        refuses(ARGUMENT, y -> y.type(2, 8));
        refuses(INDEX, y -> y.type(4, 8));
    }

    private static void typeOften() {
        Tokenwalk x = new Tokenwalk();
        due(x.typeOften(1, 2, 1), 1);
        due(x.typeOften(1, 7, 3), 4);
        due(x.text(1), "c\n\n\n");
        due(x.typeOften(1, 0, 20), 24);
        due(x.typeOften(0, 4, 24), 24);
        due(x.text(0), ";".repeat(24));
        refusesEach(INDEX, NO_INDEX, (y, i) -> y.typeOften(i, 0, 1));
        refusesEach(ARGUMENT, new int[] {-1, 8, Integer.MIN_VALUE, Integer.MAX_VALUE}, (y, i) -> y.typeOften(0, i, 1));
        refusesEach(ARGUMENT, new int[] {-1, 0, 25, Integer.MIN_VALUE, Integer.MAX_VALUE}, (y, i) -> y.typeOften(0, 0, i));
        refuses(STATE, y -> y.typeOften(2, 0, 1));
        refuses(STATE, y -> y.typeOften(0, 0, 16));
        refuses(ARGUMENT, y -> y.typeOften(2, 0, 25));
        refuses(ARGUMENT, y -> y.typeOften(2, 8, 1));
        refuses(INDEX, y -> y.typeOften(4, 8, 25));
    }

    private static void typeRow() {
        Tokenwalk x = new Tokenwalk();
        due(x.typeRow(0, 8 * 2 + 1, 2), 2);
        due(x.text(0), "bc");
        due(x.typeRow(0, 7 * 8 + 3, 1), 3);
        due(x.text(0), "bc,");
        due(x.typeRow(0, 0, 10), 13);
        due(x.text(0), "bc,aaaaaaaaaa");
        due(x.typeRow(0, Integer.MAX_VALUE, 10), 23);
        due(x.typeRow(1, Integer.MAX_VALUE, 10), 10);
        due(x.signAt(1, 9), 7);
        due(x.typeRow(1, 1 << 27, 10), 20);
        due(x.signAt(1, 18), 0);
        due(x.signAt(1, 19), 1);
        due(x.typeRow(1, 5, 4), 24);
        refusesEach(INDEX, NO_INDEX, (y, i) -> y.typeRow(i, 0, 1));
        refusesEach(ARGUMENT, new int[] {-1, Integer.MIN_VALUE}, (y, i) -> y.typeRow(0, i, 1));
        refusesEach(ARGUMENT, new int[] {-1, 0, 11, Integer.MIN_VALUE, Integer.MAX_VALUE}, (y, i) -> y.typeRow(0, 0, i));
        refuses(STATE, y -> y.typeRow(2, 0, 1));
        refuses(ARGUMENT, y -> y.typeRow(2, -1, 1));
        refuses(ARGUMENT, y -> y.typeRow(2, 0, 11));
        refuses(INDEX, y -> y.typeRow(-1, -1, 11));
        Tokenwalk nearlyFull = typed("aaaaaaaaaaaaaaaaaaaaaa");
        due(answer(y -> y.typeRow(0, 0, 3), nearlyFull), STATE);
        due(nearlyFull.length(0), 22);
        due(nearlyFull.typeRow(0, 9, 2), 24);
    }

    private static void drop() {
        Tokenwalk x = typed("abc,;");
        due(x.drop(0, 1), 4);
        due(x.text(0), "abc,");
        due(x.drop(0, 3), 1);
        due(x.text(0), "a");
        due(x.drop(0, 1), 0);
        due(x.text(0), "");
        due(x.type(0, 2), 1);
        due(x.text(0), "c");
        due(prepared().drop(2, 24), 0);
        refusesEach(INDEX, NO_INDEX, (y, i) -> y.drop(i, 1));
        refusesEach(ARGUMENT, new int[] {-1, 0, 10, Integer.MIN_VALUE, Integer.MAX_VALUE}, (y, i) -> y.drop(0, i));
        refuses(ARGUMENT, y -> y.drop(3, 1));
        refuses(ARGUMENT, y -> y.drop(2, 25));
        refuses(INDEX, y -> y.drop(4, 0));
    }

    private static void wipe() {
        Tokenwalk x = prepared();
        due(x.wipe(0), 9);
        due(x.text(0), "");
        due(x.wipe(0), 0);
        due(x.wipe(2), 24);
        due(x.text(1), "a b\tc\n");
        due(x.textOf(0), "ab,,c;a,,");
        refusesEach(INDEX, NO_INDEX, (y, i) -> y.wipe(i));
    }

    private static void join() {
        Tokenwalk x = prepared();
        due(x.join(0, 1, 3), 15);
        due(x.text(3), "ab,,c;a,,a b\tc\n");
        due(x.text(0), "ab,,c;a,,");
        due(x.text(1), "a b\tc\n");
        due(x.join(1, 0, 1), 15);
        due(x.text(1), "a b\tc\nab,,c;a,,");
        x = typed("ab");
        type(x, 1, ",");
        due(x.join(1, 0, 0), 3);
        due(x.text(0), ",ab");
        due(x.join(0, 0, 0), 6);
        due(x.text(0), ",ab,ab");
        due(x.join(0, 0, 2), 12);
        due(x.join(2, 2, 2), 24);
        due(x.text(2), ",ab,ab".repeat(4));
        due(x.join(2, 3, 0), 24);
        due(x.join(3, 3, 0), 0);
        due(x.text(0), "");
        refusesEach(INDEX, NO_INDEX, (y, i) -> y.join(i, 0, 0));
        refusesEach(INDEX, NO_INDEX, (y, i) -> y.join(0, i, 0));
        refusesEach(INDEX, NO_INDEX, (y, i) -> y.join(0, 0, i));
        refuses(STATE, y -> y.join(2, 1, 3));
        refuses(STATE, y -> y.join(2, 2, 2));
        refuses(INDEX, y -> y.join(2, 2, 4));
    }

    private static void take() {
        Tokenwalk x = prepared();
        due(x.take(0, 3), 3);
        due(x.text(3), "c;a");
        due(x.had(0), 2);
        due(x.take(1, 0), 1);
        due(x.text(0), ",");
        due(x.textOf(1), "ab,,c;a,,");
        due(x.take(0, 3), 3);
        due(x.text(3), "c;a");
        due(x.had(0), 0);
        due(x.house(3), 1);
        due(x.take(0, 3), 2);
        due(x.text(3), "ab");
        due(x.take(3, 2), 24);
        due(x.house(3), 2);
        refusesEach(INDEX, NO_INDEX, (y, i) -> y.take(i, 0));
        refusesEach(INDEX, NO_INDEX, (y, i) -> y.take(0, i));
    }

    private static void length() {
        asks(x -> x.length(0), 9);
        asks(x -> x.length(1), 6);
        asks(x -> x.length(2), 24);
        asks(x -> x.length(3), 0);
        refusesEach(INDEX, NO_INDEX, (x, i) -> x.length(i));
    }

    private static void signAt() {
        int[] signs = {0, 5, 1, 6, 2, 7};
        for (int i = 0; i < signs.length; i++) {
            int place = i;
            asks(x -> x.signAt(1, place), signs[i]);
        }
        asks(x -> x.signAt(0, 2), 3);
        asks(x -> x.signAt(0, 5), 4);
        asks(x -> x.signAt(2, 23), 5);
        refusesEach(INDEX, NO_INDEX, (x, i) -> x.signAt(i, 0));
        refusesEach(INDEX, new int[] {-1, 6, Integer.MIN_VALUE, Integer.MAX_VALUE}, (x, i) -> x.signAt(1, i));
        refuses(INDEX, x -> x.signAt(2, 24));
        refuses(INDEX, x -> x.signAt(3, 0));
        Tokenwalk cut = typed("ab");
        cut.drop(0, 1);
        due(answer(x -> x.signAt(0, 1), cut), INDEX);
    }

    private static void text() {
        asks(x -> x.text(0), "ab,,c;a,,");
        asks(x -> x.text(1), "a b\tc\n");
        asks(x -> x.text(2), BLANKS);
        asks(x -> x.text(3), "");
        refusesEach(INDEX, NO_INDEX, (x, i) -> x.text(i));
    }

    // ---- promises 12 to 15: walkers begin

    private static void begin() {
        Tokenwalk x = prepared();
        due(x.begin(0, 0, 8, true), 6);
        due(x.had(0), 0);
        due(x.setOf(0), 8);
        due(x.isKeeping(0), true);
        due(x.begin(0, 0, 24, false), 3);
        due(x.isKeeping(0), false);
        due(x.begin(0, 0, 0, false), 1);
        due(x.begin(0, 0, 0, true), 1);
        due(x.begin(0, 0, 255, false), 0);
        due(x.begin(0, 0, 255, true), 9);
        due(x.begin(1, 2, 32, true), 24);
        due(x.begin(1, 2, 32, false), 0);
        due(x.begin(1, 3, 255, true), 0);
        due(x.begin(0, 1, 224, false), 3);
        x.type(1, 0);
        due(x.textOf(0), "a b\tc\n");
        due(x.next(0), "a");
        due(x.begin(0, 1, 224, false), 4);
        due(x.next(0), "a");
        refusesEach(INDEX, NO_INDEX, (y, i) -> y.begin(i, 0, 0, true));
        refusesEach(INDEX, NO_INDEX, (y, i) -> y.begin(0, i, 0, false));
        refusesEach(ARGUMENT, NO_SET, (y, i) -> y.begin(0, 0, i, true));
        refuses(INDEX, y -> y.begin(4, 0, 256, true));
        refuses(INDEX, y -> y.begin(0, 4, 256, true));
    }

    private static void beginBy() {
        Tokenwalk x = prepared();
        due(x.beginBy(1, 0, 8), 2);
        due(x.isKeeping(1), false);
        due(x.setOf(1), 8);
        due(x.had(1), 0);
        due(x.next(1), "ab");
        due(x.beginBy(1, 1, 0), 1);
        due(x.beginBy(1, 1, 255), 0);
        due(x.textOf(1), "a b\tc\n");
        refusesEach(INDEX, NO_INDEX, (y, i) -> y.beginBy(i, 0, 0));
        refusesEach(INDEX, NO_INDEX, (y, i) -> y.beginBy(0, i, 0));
        refusesEach(ARGUMENT, NO_SET, (y, i) -> y.beginBy(0, 0, i));
        refuses(INDEX, y -> y.beginBy(4, 0, 256));
        refuses(INDEX, y -> y.beginBy(0, 4, -1));
    }

    private static void beginPlain() {
        Tokenwalk x = prepared();
        due(x.beginPlain(1, 1), 3);
        due(x.isKeeping(1), false);
        due(x.setOf(1), 224);
        due(x.had(1), 0);
        due(x.rest(1), "a|b|c");
        due(x.beginPlain(1, 0), 1);
        due(x.beginPlain(1, 2), 0);
        due(x.beginPlain(1, 3), 0);
        refusesEach(INDEX, NO_INDEX, (y, i) -> y.beginPlain(i, 0));
        refusesEach(INDEX, NO_INDEX, (y, i) -> y.beginPlain(0, i));
    }

    private static void beginLike() {
        Tokenwalk x = prepared();
        x.wipe(0);
        due(x.beginLike(2, 1), 6);
        due(x.textOf(2), "ab,,c;a,,");
        due(x.setOf(2), 8);
        due(x.isKeeping(2), true);
        due(x.had(2), 0);
        due(x.had(1), 2);
        due(x.count(1), 4);
        due(x.nextBy(1, 3), ",c;");
        due(x.beginLike(2, 1), 5);
        due(x.setOf(2), 3);
        due(x.beginLike(1, 1), 5);
        due(x.had(1), 0);
        due(x.setOf(1), 3);
        due(x.textOf(1), "ab,,c;a,,");
        due(x.next(1), "a");
        due(x.next(2), "a");
        due(x.next(2), "b");
        due(x.next(1), "b");
        due(x.beginLike(2, 0), 2);
        due(x.isKeeping(2), false);
        refusesEach(INDEX, NO_INDEX, (y, i) -> y.beginLike(i, 0));
        refusesEach(INDEX, NO_INDEX, (y, i) -> y.beginLike(0, i));
    }

    // ---- promises 16 to 25: walkers go

    private static void next() {
        nextTold(Tokenwalk::next);
        refusesEach(INDEX, NO_INDEX, (x, i) -> x.next(i));
    }

    /** What next and thing both have to tell. */
    private static void nextTold(TellingCall call) {
        Tokenwalk x = typed(",,ab,,c;a,,");
        x.begin(0, 0, 8, false);
        x.begin(1, 0, 8, true);
        String[] skipping = {"ab", "c;a", "", "ab", "c;a", ""};
        for (int i = 0; i < skipping.length; i++) {
            due(call.on(x, 0), skipping[i]);
            due(x.had(0), (i + 1) % 3);
        }
        String[] keeping = {",", ",", "ab", ",", ",", "c;a", ",", ",", "", ","};
        for (int i = 0; i < keeping.length; i++) {
            due(call.on(x, 1), keeping[i]);
            due(x.had(1), (i + 1) % 9);
            due(x.isKeeping(1), true);
            due(x.setOf(1), 8);
        }
        due(x.house(3), 3);
        due(call.on(x, 2), "");
        due(x.house(3), 4);
    }

    private static void nextBy() {
        Tokenwalk x = prepared();
        due(x.nextBy(0, 3), ",,c;");
        due(x.setOf(0), 3);
        due(x.had(0), 2);
        due(x.next(0), ",,");
        due(x.nextBy(0, 255), "");
        due(x.setOf(0), 255);
        due(x.had(0), 0);
        due(x.isKeeping(0), false);
        due(x.count(0), 0);
        due(x.nextBy(0, 0), "ab,,c;a,,");
        due(x.house(3), 1);
        due(x.nextBy(1, 16), ",c");
        due(x.nextBy(1, 16), ";");
        due(x.nextBy(1, 0), "a,,");
        due(x.nextBy(1, 255), "");
        due(x.isKeeping(1), true);
        due(x.setOf(1), 255);
        due(x.next(1), "a");
        refusesEach(INDEX, NO_INDEX, (y, i) -> y.nextBy(i, 0));
        refusesEach(ARGUMENT, NO_SET, (y, i) -> y.nextBy(0, i));
        refuses(ARGUMENT, y -> y.nextBy(3, 256));
        refuses(INDEX, y -> y.nextBy(4, 256));
    }

    private static void thing() {
        nextTold(Tokenwalk::thing);
        refusesEach(INDEX, NO_INDEX, (x, i) -> x.thing(i));
    }

    private static void nextLength() {
        Tokenwalk x = prepared();
        due(x.nextLength(0), 3);
        due(x.had(0), 2);
        due(x.nextLength(0), 0);
        due(x.had(0), 0);
        due(x.house(3), 1);
        due(x.nextLength(0), 2);
        due(x.nextLength(1), 1);
        due(x.nextLength(1), 3);
        x.begin(0, 2, 0, false);
        due(x.nextLength(0), 24);
        refusesEach(INDEX, NO_INDEX, (y, i) -> y.nextLength(i));
    }

    private static void nextFirst() {
        Tokenwalk x = prepared();
        due(x.nextFirst(0), 2);
        due(x.had(0), 2);
        due(x.nextFirst(0), -1);
        due(x.had(0), 0);
        due(x.house(3), 1);
        due(x.nextFirst(0), 0);
        due(x.nextFirst(1), 3);
        due(x.nextFirst(1), 2);
        x.begin(0, 2, 0, false);
        due(x.nextFirst(0), 5);
        refusesEach(INDEX, NO_INDEX, (y, i) -> y.nextFirst(i));
    }

    private static void isNext() {
        Tokenwalk x = prepared();
        type(x, 3, "c;a");
        due(x.isNext(0, 3), true);
        due(x.had(0), 2);
        due(x.isNext(0, 3), false);
        due(x.had(0), 0);
        due(x.house(3), 1);
        due(x.isNext(0, 3), false);
        due(x.had(0), 1);
        x.drop(3, 1);
        due(x.isNext(0, 3), false);
        x.wipe(3);
        due(x.isNext(0, 3), true);
        due(x.house(3), 2);
        due(x.isNext(0, 3), false);
        type(x, 3, "c;b");
        due(x.isNext(0, 3), false);
        due(x.text(3), "c;b");
        x.wipe(3);
        type(x, 3, "bb");
        due(x.isNext(0, 3), false);
        due(x.isNext(0, 3), false);
        refusesEach(INDEX, NO_INDEX, (y, i) -> y.isNext(i, 0));
        refusesEach(INDEX, NO_INDEX, (y, i) -> y.isNext(0, i));
    }

    private static void skip() {
        Tokenwalk x = prepared();
        due(x.skip(1, 3), 3);
        due(x.had(1), 5);
        due(x.count(1), 1);
        due(x.skip(1, 3), 1);
        due(x.skip(1, 24), 0);
        due(x.had(1), 6);
        due(x.skip(0, 1), 1);
        due(x.skip(0, 24), 0);
        due(x.house(3), 0);
        due(x.nextBy(0, 0), ",,");
        x.begin(0, 2, 32, true);
        due(x.skip(0, 24), 24);
        refusesEach(INDEX, NO_INDEX, (y, i) -> y.skip(i, 1));
        refusesEach(ARGUMENT, new int[] {-1, 0, 25, Integer.MIN_VALUE, Integer.MAX_VALUE}, (y, i) -> y.skip(0, i));
        refuses(INDEX, y -> y.skip(4, 0));
    }

    private static void rest() {
        restTold(Tokenwalk::rest);
        refusesEach(INDEX, NO_INDEX, (x, i) -> x.rest(i));
    }

    /** What rest and things both have to tell. */
    private static void restTold(TellingCall call) {
        Tokenwalk x = prepared();
        due(call.on(x, 1), ",|c;a|,|,");
        due(x.had(1), 6);
        due(call.on(x, 1), "");
        due(x.had(1), 6);
        due(call.on(x, 0), "c;a");
        due(call.on(x, 0), "");
        due(x.had(0), 2);
        due(x.house(3), 0);
        due(x.nextBy(0, 0), ",,");
        due(call.on(x, 2), "a|b|c");
        due(call.on(x, 3), "");
        x.begin(0, 2, 32, true);
        due(call.on(x, 0), BARRED_BLANKS);
        x.begin(0, 3, 32, true);
        due(call.on(x, 0), "");
        due(x.house(3), 0);
    }

    private static void things() {
        restTold(Tokenwalk::things);
        refusesEach(INDEX, NO_INDEX, (x, i) -> x.things(i));
    }

    private static void both() {
        Tokenwalk x = prepared();
        due(x.both(0, 1), "c;a|,");
        due(x.had(0), 2);
        due(x.had(1), 3);
        due(x.both(1, 0), "c;a");
        due(x.had(1), 4);
        due(x.both(1, 1), ",|,");
        due(x.had(1), 6);
        due(x.both(1, 2), "");
        due(x.had(2), 0);
        due(x.both(2, 1), "a");
        due(x.had(2), 1);
        due(x.both(2, 2), "b|c");
        due(x.both(2, 2), "");
        due(x.house(3), 0);
        x.begin(0, 2, 32, true);
        x.begin(1, 2, 32, true);
        due(x.both(0, 1), BARRED_BLANKS + "|" + BARRED_BLANKS);
        due(x.had(0), 24);
        due(x.had(1), 24);
        refusesEach(INDEX, NO_INDEX, (y, i) -> y.both(i, 0));
        refusesEach(INDEX, NO_INDEX, (y, i) -> y.both(0, i));
    }

    // ---- promises 26 to 34: what walkers are asked

    private static void has() {
        isMore((x, i) -> x.has(i));
        refusesEach(INDEX, NO_INDEX, (x, i) -> x.has(i));
    }

    /** What has and hasThing both have to answer. */
    private static void isMore(IndexedCall call) {
        asks(x -> call.on(x, 0), true);
        asks(x -> call.on(x, 1), true);
        asks(x -> call.on(x, 2), true);
        asks(x -> call.on(x, 3), false);
        Tokenwalk x = prepared();
        x.skip(0, 1);
        due(call.on(x, 0), false);
        due(call.on(x, 0), false);
        due(x.had(0), 2);
        due(x.nextBy(0, 0), ",,");
        x.begin(0, 0, 8, true);
        x.skip(0, 5);
        due(call.on(x, 0), true);
        x.skip(0, 1);
        due(call.on(x, 0), false);
        due(call.on(new Tokenwalk(), 0), false);
    }

    private static void hasThing() {
        isMore((x, i) -> x.hasThing(i));
        refusesEach(INDEX, NO_INDEX, (x, i) -> x.hasThing(i));
    }

    private static void count() {
        asks(x -> x.count(0), 1);
        asks(x -> x.count(1), 4);
        asks(x -> x.count(2), 3);
        asks(x -> x.count(3), 0);
        Tokenwalk x = prepared();
        x.nextBy(1, 3);
        due(x.count(1), 2);
        x.begin(0, 2, 32, true);
        due(x.count(0), 24);
        x.next(0);
        due(x.count(0), 23);
        x.nextBy(0, 0);
        due(x.count(0), 0);
        x.next(0);
        due(x.count(0), 1);
        refusesEach(INDEX, NO_INDEX, (y, i) -> y.count(i));
    }

    private static void askOften() {
        asks(x -> x.askOften(0, 1), 2);
        asks(x -> x.askOften(1, 3), 15);
        asks(x -> x.askOften(2, 24), 96);
        asks(x -> x.askOften(3, 24), 0);
        Tokenwalk x = prepared();
        x.begin(0, 2, 32, true);
        due(x.askOften(0, 24), 600);
        refusesEach(INDEX, NO_INDEX, (y, i) -> y.askOften(i, 1));
        refusesEach(ARGUMENT, new int[] {-1, 0, 25, Integer.MIN_VALUE, Integer.MAX_VALUE}, (y, i) -> y.askOften(0, i));
        refuses(INDEX, y -> y.askOften(4, 0));
    }

    private static void had() {
        asks(x -> x.had(0), 1);
        asks(x -> x.had(1), 2);
        asks(x -> x.had(2), 0);
        asks(x -> x.had(3), 2);
        Tokenwalk x = prepared();
        x.next(0);
        due(x.had(0), 2);
        x.next(0);
        due(x.had(0), 0);
        x.begin(1, 2, 32, true);
        due(x.had(1), 0);
        x.rest(1);
        due(x.had(1), 24);
        x.beginLike(1, 1);
        due(x.had(1), 0);
        x.take(1, 0);
        x.nextLength(1);
        x.nextFirst(1);
        x.isNext(1, 0);
        x.nextBy(1, 32);
        x.thing(1);
        x.next(1);
        x.skip(1, 2);
        due(x.had(1), 9);
        refusesEach(INDEX, NO_INDEX, (y, i) -> y.had(i));
    }

    private static void setOf() {
        asks(x -> x.setOf(0), 8);
        asks(x -> x.setOf(1), 8);
        asks(x -> x.setOf(2), 224);
        asks(x -> x.setOf(3), 16);
        Tokenwalk x = prepared();
        x.nextBy(0, 255);
        due(x.setOf(0), 255);
        x.next(0);
        due(x.setOf(0), 255);
        x.nextBy(0, 0);
        due(x.setOf(0), 0);
        refusesEach(INDEX, NO_INDEX, (y, i) -> y.setOf(i));
    }

    private static void isKeeping() {
        asks(x -> x.isKeeping(0), false);
        asks(x -> x.isKeeping(1), true);
        asks(x -> x.isKeeping(2), false);
        Tokenwalk x = prepared();
        x.rest(1);
        x.next(1);
        due(x.isKeeping(1), true);
        x.nextBy(1, 3);
        due(x.isKeeping(1), true);
        x.beginLike(1, 0);
        due(x.isKeeping(1), false);
        refusesEach(INDEX, NO_INDEX, (y, i) -> y.isKeeping(i));
    }

    private static void textOf() {
        asks(x -> x.textOf(0), "ab,,c;a,,");
        asks(x -> x.textOf(1), "ab,,c;a,,");
        asks(x -> x.textOf(2), "a b\tc\n");
        Tokenwalk x = prepared();
        x.wipe(0);
        x.type(1, 0);
        due(x.textOf(0), "ab,,c;a,,");
        due(x.textOf(2), "a b\tc\n");
        x.beginPlain(0, 3);
        due(x.textOf(0), "");
        x.beginPlain(0, 2);
        due(x.textOf(0), BLANKS);
        refusesEach(INDEX, NO_INDEX, (y, i) -> y.textOf(i));
    }

    private static void areEven() {
        asks(x -> x.areEven(0, 1), false);
        asks(x -> x.areEven(1, 1), true);
        asks(x -> x.areEven(2, 3), false);
        Tokenwalk x = prepared();
        x.next(1);
        due(x.areEven(1, 2), true);
        due(x.areEven(2, 1), true);
        x.skip(1, 2);
        due(x.areEven(0, 1), true);
        refusesEach(INDEX, NO_INDEX, (y, i) -> y.areEven(i, 0));
        refusesEach(INDEX, NO_INDEX, (y, i) -> y.areEven(0, i));
    }

    // ---- promises 35 to 42: pieces of texts

    private static void pieces() {
        asks(x -> x.pieces(0, 8, false), "ab|c;a");
        asks(x -> x.pieces(0, 8, true), "ab|,|,|c;a|,|,");
        asks(x -> x.pieces(0, 1, false), "b,,c;|,,");
        asks(x -> x.pieces(0, 1, true), "a|b,,c;|a|,,");
        asks(x -> x.pieces(0, 0, false), "ab,,c;a,,");
        asks(x -> x.pieces(0, 0, true), "ab,,c;a,,");
        asks(x -> x.pieces(0, 255, false), "");
        asks(x -> x.pieces(1, 224, false), "a|b|c");
        asks(x -> x.pieces(1, 224, true), "a| |b|\t|c|\n");
        asks(x -> x.pieces(2, 32, true), BARRED_BLANKS);
        asks(x -> x.pieces(3, 0, true), "");
        asks(x -> x.pieces(3, 255, false), "");
        refusesEach(INDEX, NO_INDEX, (x, i) -> x.pieces(i, 0, true));
        refusesEach(ARGUMENT, NO_SET, (x, i) -> x.pieces(0, i, false));
        refuses(INDEX, x -> x.pieces(4, 256, true));
    }

    private static void countOf() {
        asks(x -> x.countOf(0, 8, false), 2);
        asks(x -> x.countOf(0, 8, true), 6);
        asks(x -> x.countOf(0, 0, false), 1);
        asks(x -> x.countOf(0, 255, false), 0);
        asks(x -> x.countOf(0, 255, true), 9);
        asks(x -> x.countOf(1, 64, false), 2);
        asks(x -> x.countOf(2, 32, true), 24);
        asks(x -> x.countOf(3, 0, true), 0);
        refusesEach(INDEX, NO_INDEX, (x, i) -> x.countOf(i, 0, true));
        refusesEach(ARGUMENT, NO_SET, (x, i) -> x.countOf(0, i, false));
        refuses(INDEX, x -> x.countOf(4, 256, true));
    }

    private static void pieceAt() {
        asks(x -> x.pieceAt(0, 8, false, 0), "ab");
        asks(x -> x.pieceAt(0, 8, false, 1), "c;a");
        asks(x -> x.pieceAt(0, 8, false, 2), "");
        asks(x -> x.pieceAt(0, 8, true, 2), ",");
        asks(x -> x.pieceAt(0, 8, true, 3), "c;a");
        asks(x -> x.pieceAt(0, 8, true, 5), ",");
        asks(x -> x.pieceAt(0, 8, true, 6), "");
        asks(x -> x.pieceAt(2, 32, true, 23), " ");
        asks(x -> x.pieceAt(2, 32, true, 24), "");
        asks(x -> x.pieceAt(3, 0, true, 0), "");
        refusesEach(INDEX, NO_INDEX, (x, i) -> x.pieceAt(i, 0, true, 0));
        refusesEach(ARGUMENT, NO_SET, (x, i) -> x.pieceAt(0, i, false, 0));
        refusesEach(ARGUMENT, new int[] {-1, 25, Integer.MIN_VALUE, Integer.MAX_VALUE}, (x, i) -> x.pieceAt(0, 8, false, i));
        refuses(INDEX, x -> x.pieceAt(4, 256, true, 25));
    }

    private static void firstThen() {
        asks(x -> x.firstThen(0, 8, 1), "ab|,,c;|,,");
        asks(x -> x.firstThen(0, 1, 8), "b,,c;|a");
        asks(x -> x.firstThen(0, 8, 0), "ab|,,c;a,,");
        asks(x -> x.firstThen(0, 8, 255), "ab");
        asks(x -> x.firstThen(0, 0, 8), "ab,,c;a,,");
        asks(x -> x.firstThen(0, 255, 0), "");
        asks(x -> x.firstThen(3, 0, 0), "");
        refusesEach(INDEX, NO_INDEX, (x, i) -> x.firstThen(i, 0, 0));
        refusesEach(ARGUMENT, NO_SET, (x, i) -> x.firstThen(0, i, 0));
        refusesEach(ARGUMENT, NO_SET, (x, i) -> x.firstThen(0, 0, i));
        refusesEach(ARGUMENT, NO_SET, (x, i) -> x.firstThen(3, 255, i));
        refuses(INDEX, x -> x.firstThen(4, 256, 256));
    }

    private static void inTurn() {
        asks(x -> x.inTurn(0, 8, 1), "ab|,,c;|a|,,");
        asks(x -> x.inTurn(0, 1, 8), "a|b|,,c;|a|,,");
        asks(x -> x.inTurn(0, 8, 8), "ab|,|,|c;a|,|,");
        asks(x -> x.inTurn(0, 0, 255), "ab,,c;a,,");
        asks(x -> x.inTurn(0, 255, 0), "a|b,,c;a,,");
        asks(x -> x.inTurn(1, 32, 64), "a| b|\tc\n");
        asks(x -> x.inTurn(2, 32, 32), BARRED_BLANKS);
        asks(x -> x.inTurn(3, 0, 255), "");
        refusesEach(INDEX, NO_INDEX, (x, i) -> x.inTurn(i, 0, 0));
        refusesEach(ARGUMENT, NO_SET, (x, i) -> x.inTurn(0, i, 0));
        refusesEach(ARGUMENT, NO_SET, (x, i) -> x.inTurn(0, 0, i));
        refusesEach(ARGUMENT, NO_SET, (x, i) -> x.inTurn(3, 0, i));
        refuses(INDEX, x -> x.inTurn(4, 256, 256));
    }

    private static void whole() {
        for (int set : new int[] {0, 1, 8, 24, 224, 255}) {
            asks(x -> x.whole(0, set), "ab,,c;a,,");
            asks(x -> x.whole(1, set), "a b\tc\n");
            asks(x -> x.whole(2, set), BLANKS);
            asks(x -> x.whole(3, set), "");
        }
        refusesEach(INDEX, NO_INDEX, (x, i) -> x.whole(i, 0));
        refusesEach(ARGUMENT, NO_SET, (x, i) -> x.whole(0, i));
        refuses(INDEX, x -> x.whole(4, 256));
    }

    private static void without() {
        asks(x -> x.without(0, 8), "abc;a");
        asks(x -> x.without(0, 24), "abca");
        asks(x -> x.without(0, 1), "b,,c;,,");
        asks(x -> x.without(0, 0), "ab,,c;a,,");
        asks(x -> x.without(0, 255), "");
        asks(x -> x.without(1, 224), "abc");
        asks(x -> x.without(2, 32), "");
        asks(x -> x.without(3, 0), "");
        refusesEach(INDEX, NO_INDEX, (x, i) -> x.without(i, 0));
        refusesEach(ARGUMENT, NO_SET, (x, i) -> x.without(0, i));
        refuses(INDEX, x -> x.without(4, 256));
    }

    private static void areLike() {
        asks(x -> x.areLike(0, 0, 8), true);
        asks(x -> x.areLike(0, 1, 8), false);
        asks(x -> x.areLike(0, 1, 255), true);
        asks(x -> x.areLike(2, 3, 224), true);
        asks(x -> x.areLike(2, 3, 0), false);
        Tokenwalk x = typed(",,ab,c");
        type(x, 1, "ab,,,c,");
        type(x, 2, "c,ab");
        type(x, 3, "a,bc");
        due(x.areLike(0, 1, 8), true);
        due(x.areLike(1, 0, 8), true);
        due(x.areLike(0, 1, 0), false);
        due(x.areLike(0, 2, 8), false);
        due(x.areLike(0, 3, 8), false);
        x.type(0, 2);
        due(x.areLike(0, 1, 8), false);
        refusesEach(INDEX, NO_INDEX, (y, i) -> y.areLike(i, 0, 0));
        refusesEach(INDEX, NO_INDEX, (y, i) -> y.areLike(0, i, 0));
        refusesEach(ARGUMENT, NO_SET, (y, i) -> y.areLike(0, 1, i));
        refuses(INDEX, y -> y.areLike(4, 0, 256));
        refuses(INDEX, y -> y.areLike(0, 4, 256));
    }

    // ---- promises 43 to 47: the way

    private static void blank() {
        Tokenwalk x = new Tokenwalk();
        for (int i = 1; i <= 3; i++) {
            due(x.blank(), -9);
            due(x.house(4), i);
        }
        due(x.house(3), 0);
        due(x.house(5), 0);
    }

    private static void knock() {
        Tokenwalk x = new Tokenwalk();
        for (int i = 1; i <= 3; i++) {
            due(x.knock(), i);
            due(x.house(5), i);
        }
        due(x.house(4), 0);
    }

    private static void house() {
        int[] sums = {39, 8, 5, 0, 1, 2};
        for (int i = 0; i < sums.length; i++) {
            int what = i;
            asks(x -> x.house(what), sums[i]);
        }
        Tokenwalk x = prepared();
        int refusals = 0;
        for (Call call : new Call[] {
            y -> y.next(3), y -> y.nextBy(3, 255), y -> y.thing(3), y -> y.nextLength(3),
            y -> y.nextFirst(3), y -> y.isNext(3, 0), y -> y.take(3, 0)}) {
            x.begin(3, 3, 16, false);
            call.on(x);
            refusals++;
            due(x.house(3), refusals);
        }
        x.skip(3, 24);
        x.rest(3);
        x.things(3);
        x.both(3, 3);
        x.pieceAt(3, 0, true, 3);
        x.firstThen(3, 0, 0);
        due(x.house(3), refusals);
        refusesEach(ARGUMENT, new int[] {-1, 6, Integer.MIN_VALUE, Integer.MAX_VALUE}, (y, i) -> y.house(i));
    }

    private static void isSound() {
        asks(x -> x.isSound(), true);
        due(new Tokenwalk().isSound(), true);
        Tokenwalk x = prepared();
        for (int i = 0; i < 20; i++) {
            x.next(i % 4);
            x.nextBy((i + 1) % 4, i * 13 % 256);
            due(x.isSound(), true);
        }
    }

    private static void digest() {
        due(new Tokenwalk().digest(), -3806448513533004694L);
        Tokenwalk x = prepared();
        due(x.digest(), digestByWords(x).longValue());
        due(x.digest(), x.digest());
        x.nextBy(0, 3);
        x.next(3);
        x.blank();
        due(x.digest(), digestByWords(x).longValue());
    }
}
