import java.util.List;

/** The sentences of the document that stand before its promises: a test each. */
public final class DescriptionSentencesTest extends Sentences {
    /** All calls that tell one PIECE; with a REFUSAL each of them has the WALKER BEGUN again. */
    private static final List<IndexedCall> TELLING = List.of(
        (x, w) -> x.next(w), (x, w) -> x.nextBy(w, x.setOf(w)), (x, w) -> x.thing(w), (x, w) -> x.nextLength(w),
        (x, w) -> x.nextFirst(w), (x, w) -> x.isNext(w, 0), (x, w) -> x.take(w, 0));

    public static void main(String[] args) {
        whatItIs();
        anObject();
        numbers();
        exceptions();
        textsAndSets();
        walkersAtFirst();
        pieces();
        theEnd();
        refusals();
        countAndHad();
        finish("DescriptionSentencesTest", DESCRIPTION, DESCRIPTION);
    }

    private static void whatItIs() {
        says(DESCRIPTION, "Texts are typed, cut, joined; a walker is given a text and a set of signs that part, and tells piece by piece what stands between them, with these signs as pieces of their own, or without; on the way it may be given another set.", () -> {
            Tokenwalk x = typed("ab,c");
            x.typeRow(1, 0341, 3);
            x.drop(1, 1);
            due(x.join(0, 1, 2), 6);
            due(x.text(2), "ab,cb;");
            x.begin(0, 2, 8, true);
            due(x.next(0), "ab");
            due(x.next(0), ",");
            due(x.nextBy(0, 2), "c");
            due(x.next(0), "b");
            x.begin(0, 2, 8, false);
            due(x.next(0), "ab");
            due(x.nextBy(0, 2), ",c");
            due(x.next(0), ";");
        });
        says(DESCRIPTION, "Walkers go side by side; one asks how many pieces are left, whether there is one, for all that are left, and for pieces of texts at once.", () -> {
            Tokenwalk x = roomy();
            for (int i = 0; i < 4; i++) {
                due(x.next(i), "a");
            }
            due(x.next(2), "b");
            due(x.count(1), 1);
            due(x.count(2), 0);
            due(x.has(1), true);
            due(x.has(2), false);
            due(x.rest(1), "b");
            due(x.rest(2), "");
            due(x.pieces(1, 8, false), "a|b");
            due(x.both(0, 3), "b|b");
        });
    }

    private static void numbers() {
        says(DESCRIPTION, "NONE is -1.", () -> {
            Tokenwalk x = prepared();
            due(x.nextFirst(3), -1);
            due(new Tokenwalk().nextFirst(0), -1);
        });
        says(DESCRIPTION, "A set is the sum of 2^k for the numbers k in it.", () -> {
            String all = "abc,; \t\n";
            for (int set = 0; set < 256; set++) {
                StringBuilder left = new StringBuilder();
                for (int k = 0; k < 8; k++) {
                    left.append((set & 1 << k) == 0 ? all.substring(k, k + 1) : "");
                }
                due(typed(all).without(0, set), left.toString());
            }
        });
        says(DESCRIPTION, "X by X is by rising numbers.", () -> {
            Tokenwalk x = new Tokenwalk();
            for (int i = 0; i < 4; i++) {
                type(x, i, "b,".repeat(i + 2));
                x.beginBy(i, i, 8 + 32 * i);
                x.skip(i, i + 1);
            }
            due(x.digest(), digestByWords(x).longValue());
        });
        says(DESCRIPTION, "Places are numbered from 0.", () -> {
            Tokenwalk x = typed("b,");
            due(x.signAt(0, 0), 1);
            due(x.signAt(0, 1), 3);
            due(answer(y -> y.signAt(0, 2), x), INDEX);
            due(answer(y -> y.signAt(0, -1), x), INDEX);
        });
    }

    private static void anObject() {
        says(DESCRIPTION, "An object is used for at most 512 calls after it has been made; what later calls answer is free.", () -> {
            Tokenwalk knocked = new Tokenwalk();
            for (int i = 1; i <= 512; i++) {
                due(knocked.knock(), i);
            }
            Tokenwalk told = new Tokenwalk();
            told.typeOften(0, 5, 24);
            for (int i = 1; i < 256; i++) {
                due(told.begin(0, 0, 32, true), 24);
                due(told.rest(0), BARRED_BLANKS);
            }
            due(told.pieces(0, 32, true), BARRED_BLANKS);
        });
        says(DESCRIPTION, "WALKERS 0 to 3.", () -> {
            takesOnly(0, 3, INDEX, (x, i) -> x.next(i));
            for (int i = 0; i < 4; i++) {
                Tokenwalk x = roomy();
                due(x.next(i), "a");
                for (int other = 0; other < 4; other++) {
                    due(x.count(other), other == i ? 1 : 2);
                }
            }
        });
    }

    // ---- exceptions

    private static void exceptions() {
        says(DESCRIPTION, "A method that throws an exception changes nothing.", () -> {
            Tokenwalk x = prepared();
            long before = x.digest();
            refusedCalls(INDEX).forEach(call -> due(answer(call, x), INDEX));
            refusedCalls(ARGUMENT).forEach(call -> due(answer(call, x), ARGUMENT));
            refusedCalls(STATE).forEach(call -> due(answer(call, x), STATE));
            due(x.digest(), before);
            due(trace(x), trace(prepared()));
        });
        says(DESCRIPTION, "If several exceptions apply, the one that is named first is thrown.", () -> {
            indexBeforeArgument();
            indexBeforeState();
            argumentBeforeState();
        });
    }

    private static List<Call> refusedCalls(Class<?> exception) {
        return exception == STATE ? List.of(
            x -> x.type(2, 0), x -> x.typeOften(2, 0, 1), x -> x.typeOften(0, 0, 16), x -> x.typeRow(2, 0, 1),
            x -> x.typeRow(2, 0, 10), x -> x.join(0, 2, 1), x -> x.join(2, 0, 0), x -> x.join(2, 2, 2))
            : exception == ARGUMENT ? List.of(
            x -> x.type(0, 8), x -> x.typeOften(0, 8, 1), x -> x.typeOften(0, 0, 25), x -> x.typeRow(0, -1, 1),
            x -> x.typeRow(0, 0, 11), x -> x.drop(0, 10), x -> x.drop(0, 0), x -> x.begin(1, 1, 256, false),
            x -> x.beginBy(1, 1, 256), x -> x.nextBy(0, 256), x -> x.nextBy(3, -1), x -> x.skip(0, 25),
            x -> x.skip(1, 0), x -> x.askOften(0, 25), x -> x.pieces(0, 256, true), x -> x.countOf(0, 256, true),
            x -> x.pieceAt(0, 256, true, 0), x -> x.pieceAt(0, 8, true, 25), x -> x.firstThen(0, 256, 8),
            x -> x.firstThen(0, 8, 256), x -> x.inTurn(0, 256, 8), x -> x.inTurn(0, 8, 256), x -> x.whole(0, 256),
            x -> x.without(0, 256), x -> x.areLike(0, 1, 256), x -> x.house(6), x -> x.house(-1))
            : List.of(
            x -> x.type(4, 0), x -> x.typeOften(4, 0, 1), x -> x.typeRow(4, 0, 1), x -> x.drop(4, 1), x -> x.wipe(4),
            x -> x.join(4, 0, 3), x -> x.join(0, 4, 3), x -> x.join(0, 1, 4), x -> x.take(4, 0), x -> x.take(0, 4),
            x -> x.take(3, 4), x -> x.length(4), x -> x.signAt(4, 0), x -> x.signAt(0, 9), x -> x.text(4),
            x -> x.begin(4, 1, 8, true), x -> x.begin(0, 4, 8, true), x -> x.beginBy(4, 1, 8), x -> x.beginBy(0, 4, 8),
            x -> x.beginPlain(4, 1), x -> x.beginPlain(0, 4), x -> x.beginLike(4, 1), x -> x.beginLike(0, 4),
            x -> x.next(4), x -> x.nextBy(4, 8), x -> x.thing(4), x -> x.nextLength(4), x -> x.nextFirst(4),
            x -> x.isNext(4, 0), x -> x.isNext(0, 4), x -> x.isNext(3, 4), x -> x.skip(4, 1), x -> x.rest(4),
            x -> x.things(4), x -> x.both(4, 0), x -> x.both(0, 4), x -> x.has(4), x -> x.hasThing(4),
            x -> x.count(4), x -> x.askOften(4, 1), x -> x.had(4), x -> x.setOf(4), x -> x.isKeeping(4),
            x -> x.textOf(4), x -> x.areEven(4, 0), x -> x.areEven(0, 4), x -> x.pieces(4, 8, true),
            x -> x.countOf(4, 8, true), x -> x.pieceAt(4, 8, true, 0), x -> x.firstThen(4, 8, 8),
            x -> x.inTurn(4, 8, 8), x -> x.whole(4, 8), x -> x.without(4, 8), x -> x.areLike(4, 0, 8),
            x -> x.areLike(0, 4, 8));
    }

    private static void indexBeforeArgument() {
        List<Call> calls = List.of(
            x -> x.type(4, 8), x -> x.type(-1, -1), x -> x.typeOften(4, 8, 1), x -> x.typeOften(4, 0, 25),
            x -> x.typeOften(-1, 0, 0), x -> x.typeRow(4, -1, 1), x -> x.typeRow(4, 0, 11), x -> x.typeRow(-1, 0, 0),
            x -> x.drop(4, 0), x -> x.drop(-1, 25), x -> x.begin(4, 0, 256, true), x -> x.begin(0, 4, 256, true),
            x -> x.begin(-1, -1, -1, false), x -> x.beginBy(4, 0, 256), x -> x.beginBy(0, 4, 256),
            x -> x.beginBy(-1, -1, -1), x -> x.nextBy(4, 256), x -> x.nextBy(-1, -1), x -> x.skip(4, 25),
            x -> x.skip(-1, 0), x -> x.askOften(4, 25), x -> x.askOften(-1, 0), x -> x.pieces(4, 256, true),
            x -> x.pieces(-1, -1, false), x -> x.countOf(4, 256, true), x -> x.countOf(-1, -1, false),
            x -> x.pieceAt(4, 256, true, 0), x -> x.pieceAt(4, 0, true, 25), x -> x.pieceAt(-1, 0, true, -1),
            x -> x.firstThen(4, 256, 0), x -> x.firstThen(4, 0, 256), x -> x.inTurn(4, 256, 0),
            x -> x.inTurn(4, 0, 256), x -> x.whole(4, 256), x -> x.whole(-1, -1), x -> x.without(4, 256),
            x -> x.without(-1, -1), x -> x.areLike(4, 0, 256), x -> x.areLike(0, 4, 256), x -> x.areLike(-1, 0, -1));
        calls.forEach(call -> refuses(INDEX, call));
    }

    private static void indexBeforeState() {
        List<Call> calls = List.of(
            x -> x.typeOften(4, 0, 24), x -> x.join(2, 2, 4), x -> x.join(2, 2, -1), x -> x.join(2, 4, 2),
            x -> x.join(-1, 2, 2));
        calls.forEach(call -> refuses(INDEX, call));
    }

    private static void argumentBeforeState() {
        List<Call> calls = List.of(
            x -> x.type(2, 8), x -> x.type(2, -1), x -> x.typeOften(2, 8, 1), x -> x.typeOften(2, -1, 24),
            x -> x.typeOften(2, 0, 25), x -> x.typeOften(2, 0, Integer.MAX_VALUE), x -> x.typeRow(2, -1, 1),
            x -> x.typeRow(2, 0, 11), x -> x.typeRow(2, 0, Integer.MAX_VALUE));
        calls.forEach(call -> refuses(ARGUMENT, call));
    }

    // ---- signs, texts, sets

    private static void textsAndSets() {
        says(DESCRIPTION, "SIGNS, by numbers: 0 \"a\", 1 \"b\", 2 \"c\", 3 \",\", 4 \";\", 5 the blank (code 32), 6 the tab (code 9), 7 the end of a line (code 10).", () -> {
            int[] codes = {'a', 'b', 'c', ',', ';', 32, 9, 10};
            for (int sign = 0; sign < codes.length; sign++) {
                Tokenwalk x = new Tokenwalk();
                x.type(0, sign);
                due(x.text(0), String.valueOf((char) codes[sign]));
            }
        });
        says(DESCRIPTION, "TEXTS 0 to 3, each of at most 24 SIGNS (none at first).", () -> {
            takesOnly(0, 3, INDEX, (x, i) -> x.length(i));
            for (int text = 0; text < 4; text++) {
                Tokenwalk x = new Tokenwalk();
                due(x.length(text), 0);
                for (int i = 1; i <= 24; i++) {
                    due(x.type(text, i % 8), i);
                }
                due(answer(typeOneMore(text), x), STATE);
                due(x.text(text), "bc,; \t\na".repeat(3));
                due(x.house(0), 24);
            }
        });
        says(DESCRIPTION, "A SET is a set of SIGNS (0 to 255).", () -> {
            takesOnly(0, 255, ARGUMENT, (x, set) -> x.nextBy(0, set));
            for (int sign = 0; sign < 8; sign++) {
                Tokenwalk x = typed("abc,; \t\n");
                String letter = x.text(0).substring(sign, sign + 1);
                due(x.without(0, 1 << sign), "abc,; \t\n".replace(letter, ""));
                due(x.without(0, 255 - (1 << sign)), letter);
            }
        });
        says(DESCRIPTION, "PLAIN is the SET of 5, 6 and 7: 224.", () -> {
            Tokenwalk x = typed("a b\tc\n,;");
            x.beginPlain(0, 0);
            due(x.setOf(0), 224);
            due(x.rest(0), "a|b|c|,;");
        });
    }

    private static Call typeOneMore(int text) {
        return x -> x.type(text, 0);
    }

    // ---- walkers

    private static void walkersAtFirst() {
        says(DESCRIPTION, "Each has a TEXT of its own (a copy, as it was when it was BEGUN), a SET, is KEEPING or not, and stands at a place of its TEXT: 0 as it is BEGUN.", () -> {
            Tokenwalk x = roomy();
            x.begin(0, 0, 8, true);
            x.begin(1, 0, 8, true);
            x.next(0);
            x.type(0, 2);
            due(x.textOf(0), "a,b,");
            x.wipe(0);
            due(x.textOf(0), "a,b,");
            due(x.rest(0), ",|b|,");
            due(x.rest(1), "a|,|b|,");
        });
        says(DESCRIPTION, "At first each is BEGUN with a TEXT without SIGNS, PLAIN, not KEEPING.", () -> {
            for (int i = 0; i < 4; i++) {
                Tokenwalk x = new Tokenwalk();
                due(x.textOf(i), "");
                due(x.setOf(i), 224);
                due(x.isKeeping(i), false);
                due(x.had(i), 0);
                due(x.count(i), 0);
                due(x.next(i), "");
            }
        });
    }

    private static void pieces() {
        says(DESCRIPTION, "A SIGN PARTS, if it is in the SET.", () -> {
            for (int sign = 0; sign < 8; sign++) {
                Tokenwalk x = new Tokenwalk();
                x.type(0, sign);
                due(x.beginBy(0, 0, 1 << sign), 0);
                due(x.beginBy(0, 0, 255 - (1 << sign)), 1);
            }
        });
        says(DESCRIPTION, "The next PIECE, from where it stands: KEEPING: if a SIGN that PARTS stands there, that SIGN alone; otherwise all SIGNS from there up to the next one that PARTS, or to the end.", () -> {
            tells(",,ab,c;a", 24, true, ",|,|ab|,|c|;|a");
            tells("ab", 8, true, "ab");
            tells(",", 8, true, ",");
            tells("ab,", 8, true, "ab|,");
            tells("a b", 0, true, "a b");
        });
        says(DESCRIPTION, "Not KEEPING: first it goes past all SIGNS that PART; then all up to the next one that PARTS, or to the end.", () -> {
            tells(",,ab,;c;a", 24, false, "ab|c|a");
            tells("ab", 8, false, "ab");
            tells(",", 8, false, "");
            tells("ab,", 8, false, "ab");
            tells("a b", 0, false, "a b");
        });
        says(DESCRIPTION, "As a PIECE is told, the WALKER stands behind it.", () -> {
            Tokenwalk x = prepared();
            due(x.nextBy(0, 0), ",,c;a,,");
            due(x.nextBy(1, 0), ",c;a,,");
            x = prepared();
            x.skip(0, 24);
            due(x.nextBy(0, 0), ",,");
        });
        says(DESCRIPTION, "A row of PIECES is told with \"|\" between.", () -> {
            tells("a", 0, true, "a");
            tells("a,", 8, true, "a|,");
            tells(" ".repeat(24), 32, true, BARRED_BLANKS);
        });
    }

    private static void tells(String signs, int set, boolean isKeeping, String want) {
        Tokenwalk x = typed(signs);
        x.begin(0, 0, set, isKeeping);
        due(x.rest(0), want);
    }

    private static void theEnd() {
        says(DESCRIPTION, "At the end there is none.", () -> {
            for (boolean isKeeping : new boolean[] {true, false}) {
                hasNone(typed(""), 0, isKeeping, 0);
                hasNone(typed("ab"), 8, isKeeping, 1);
                hasNone(typed(" ".repeat(24)), 0, isKeeping, 1);
            }
            hasNone(typed(" ".repeat(24)), 32, true, 24);
            hasNone(typed(" ".repeat(24)), 32, false, 0);
            hasNone(typed("ab,,"), 8, false, 1);
            hasNone(typed("ab,,"), 8, true, 3);
        });
    }

    /** Behind so many PIECES of TEXT 0 there is none more. */
    private static void hasNone(Tokenwalk x, int set, boolean isKeeping, int pieces) {
        due(x.begin(0, 0, set, isKeeping), pieces);
        for (int i = 0; i < pieces; i++) {
            due(x.has(0), true);
            due(x.next(0).isEmpty(), false);
        }
        due(x.has(0), false);
        due(x.hasThing(0), false);
        due(x.count(0), 0);
        due(x.had(0), pieces);
        due(x.rest(0), "");
        due(x.next(0), "");
    }

    private static void refusals() {
        says(DESCRIPTION, "If there is none, as it is to be told, that is a REFUSAL: then the WALKER is BEGUN again with its TEXT and with the SET that it has then, KEEPING as before; its HAD is 0.", () -> {
            for (IndexedCall call : TELLING) {
                beginsAgain(call, false, 2, "a|b");
                beginsAgain(call, true, 4, "a|,|b|,");
            }
        });
        says(DESCRIPTION, "A method that tells a PIECE as a text tells \"\" with a REFUSAL (no PIECE is without SIGNS).", () -> {
            for (TellingCall call : List.<TellingCall>of((x, w) -> x.next(w), (x, w) -> x.thing(w), (x, w) -> x.nextBy(w, 8))) {
                Tokenwalk x = typed(",,ab,,,c,");
                x.beginBy(0, 0, 8);
                for (String want : new String[] {"ab", "c", "", "ab", "c", "", "ab"}) {
                    due(call.on(x, 0), want);
                }
                due(x.house(3), 2);
                due(call.on(x, 1), "");
                due(call.on(x, 1), "");
                due(x.house(3), 4);
            }
        });
    }

    private static void beginsAgain(IndexedCall call, boolean isKeeping, int pieces, String all) {
        Tokenwalk x = roomy();
        x.begin(1, 1, 8, isKeeping);
        x.wipe(1);
        due(x.skip(1, 24), pieces);
        call.on(x, 1);
        due(x.house(3), 1);
        due(x.had(1), 0);
        due(x.count(1), pieces);
        due(x.textOf(1), "a,b,");
        due(x.setOf(1), 8);
        due(x.isKeeping(1), isKeeping);
        due(x.rest(1), all);
        due(x.house(3), 1);
    }

    private static void countAndHad() {
        says(DESCRIPTION, "COUNT: how many PIECES it would tell, one behind the other, from where it stands, with the SET that it has.", () -> {
            Tokenwalk x = prepared();
            due(x.count(1), 4);
            x.next(1);
            due(x.count(1), 3);
            x.nextBy(1, 3);
            due(x.count(1), 2);
            x.rest(1);
            due(x.count(1), 0);
            due(x.beginBy(1, 3, 0), 0);
            due(x.begin(1, 2, 32, true), 24);
        });
        says(DESCRIPTION, "HAD: how many it told since it was BEGUN.", () -> {
            Tokenwalk x = roomy();
            due(x.had(0), 0);
            for (int i = 0; i < TELLING.size(); i++) {
                x.begin(0, 1, 8, true);
                due(x.had(0), 0);
                TELLING.get(i).on(x, 0);
                due(x.had(0), 1);
                x.skip(0, 2);
                due(x.had(0), 3);
                x.rest(0);
                due(x.had(0), 4);
                TELLING.get(i).on(x, 0);
                due(x.had(0), 0);
            }
        });
    }
}
