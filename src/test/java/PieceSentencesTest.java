import java.math.BigInteger;

/** The sentences of promises 35 to 47, of pieces and of the way: a test each. */
public final class PieceSentencesTest extends Sentences {
    private static final String NO_TEXT = "Throws `IndexOutOfBoundsException` if there is no such TEXT";
    private static final String NO_SUCH_SET = "Throws `IllegalArgumentException` if set is not 0 to 255";
    private static final String NO_SUCH_SETS = "Throws `IllegalArgumentException` if set or other is not 0 to 255";

    public static void main(String[] args) {
        asWalkersTellThem();
        pieces();
        countOf();
        pieceAt();
        firstThen();
        inTurn();
        whole();
        without();
        areLike();
        blank();
        knock();
        house();
        isSound();
        digest();
        finish("PieceSentencesTest", 35, 47);
    }

    private static void needsText(int promise, IndexedCall call) {
        says(promise, NO_TEXT, () -> takesOnly(0, 3, INDEX, call));
    }

    private static void needsSet(int promise, IndexedCall call) {
        says(promise, NO_SUCH_SET, () -> takesOnly(0, 255, ARGUMENT, call));
    }

    // ---- pieces of texts

    private static void asWalkersTellThem() {
        says(35, "---- pieces of texts (as a WALKER would tell them that is BEGUN so)", () -> {
            for (int text = 0; text < 4; text++) {
                for (int set = 0; set < 256; set += 17) {
                    asWalkersTell(text, set, true);
                    asWalkersTell(text, set, false);
                }
            }
        });
    }

    private static void asWalkersTell(int text, int set, boolean isKeeping) {
        Tokenwalk x = prepared();
        due(x.countOf(text, set, isKeeping), x.begin(0, text, set, isKeeping));
        due(x.pieces(text, set, isKeeping), x.rest(0));
        x.beginLike(0, 0);
        StringBuilder all = new StringBuilder();
        for (int k = 0; k < 25; k++) {
            String piece = x.has(0) ? x.next(0) : "";
            due(x.pieceAt(text, set, isKeeping, k), piece);
            all.append(piece);
        }
        due(isKeeping ? x.whole(text, set) : x.without(text, set), all.toString());
    }

    private static void pieces() {
        says(35, "Returns all PIECES; \"\" without any.", () -> {
            asks(x -> x.pieces(3, 0, true), "");
            asks(x -> x.pieces(3, 255, false), "");
            asks(x -> x.pieces(2, 32, true), BARRED_BLANKS);
            asks(x -> x.pieces(2, 32, false), "");
            asks(x -> x.pieces(2, 0, true), BLANKS);
            asks(x -> x.pieces(2, 255 - 32, false), BLANKS);
            asks(x -> x.pieces(0, 8, true), "ab|,|,|c;a|,|,");
            asks(x -> x.pieces(0, 8, false), "ab|c;a");
        });
        needsText(35, (x, text) -> x.pieces(text, 8, true));
        needsSet(35, (x, set) -> x.pieces(0, set, true));
        needsSet(35, (x, set) -> x.pieces(3, set, false));
    }

    private static void countOf() {
        says(36, "Returns how many PIECES.", () -> {
            asks(x -> x.countOf(3, 0, true), 0);
            asks(x -> x.countOf(3, 255, false), 0);
            asks(x -> x.countOf(2, 32, true), 24);
            asks(x -> x.countOf(2, 32, false), 0);
            asks(x -> x.countOf(2, 0, true), 1);
            asks(x -> x.countOf(2, 0, false), 1);
            asks(x -> x.countOf(0, 8, true), 6);
            asks(x -> x.countOf(0, 8, false), 2);
        });
        needsText(36, (x, text) -> x.countOf(text, 8, true));
        needsSet(36, (x, set) -> x.countOf(0, set, true));
        needsSet(36, (x, set) -> x.countOf(3, set, false));
    }

    private static void pieceAt() {
        says(37, "Returns the PIECE number k (from 0 on); \"\" if there is none.", () -> {
            asks(x -> x.pieceAt(3, 0, true, 0), "");
            asks(x -> x.pieceAt(3, 255, false, 24), "");
            asks(x -> x.pieceAt(2, 32, true, 0), " ");
            asks(x -> x.pieceAt(2, 32, true, 23), " ");
            asks(x -> x.pieceAt(2, 32, true, 24), "");
            asks(x -> x.pieceAt(2, 32, false, 0), "");
            asks(x -> x.pieceAt(2, 0, false, 0), BLANKS);
            asks(x -> x.pieceAt(2, 0, false, 1), "");
            asks(x -> x.pieceAt(0, 8, false, 0), "ab");
            asks(x -> x.pieceAt(0, 8, false, 1), "c;a");
            asks(x -> x.pieceAt(0, 8, false, 2), "");
            asks(x -> x.pieceAt(0, 8, true, 5), ",");
            asks(x -> x.pieceAt(0, 8, true, 6), "");
        });
        needsText(37, (x, text) -> x.pieceAt(text, 8, true, 0));
        says(37, "Throws `IllegalArgumentException` if set is not 0 to 255, or k is not 0 to 24", () -> {
            takesOnly(0, 255, ARGUMENT, (x, set) -> x.pieceAt(0, set, true, 0));
            takesOnly(0, 24, ARGUMENT, (x, k) -> x.pieceAt(0, 8, true, k));
            refusesEach(ARGUMENT, new int[] {-1, 25}, (x, k) -> x.pieceAt(2, 32, true, k));
        });
    }

    private static void firstThen() {
        says(38, "Returns the first PIECE by the SET, and then all PIECES that are left by the other one, not KEEPING; \"\" without a first one.", () -> {
            asks(x -> x.firstThen(3, 0, 0), "");
            asks(x -> x.firstThen(0, 255, 0), "");
            asks(x -> x.firstThen(2, 32, 0), "");
            asks(x -> x.firstThen(2, 0, 32), BLANKS);
            asks(x -> x.firstThen(0, 8, 255), "ab");
            asks(x -> x.firstThen(0, 8, 0), "ab|,,c;a,,");
            asks(x -> x.firstThen(0, 8, 16), "ab|,,c|a,,");
            asks(x -> x.firstThen(0, 1, 24), "b,,c;|a");
            Tokenwalk x = typed("a,b,".repeat(6));
            due(x.firstThen(0, 8, 8), "a|b|".repeat(5) + "a|b");
        });
        needsText(38, (x, text) -> x.firstThen(text, 8, 8));
        needsSets(38, (x, set) -> x.firstThen(0, set, 8), (x, other) -> x.firstThen(0, 8, other));
        needsSets(38, (x, set) -> x.firstThen(3, set, 8), (x, other) -> x.firstThen(3, 8, other));
    }

    private static void needsSets(int promise, IndexedCall bySet, IndexedCall byOther) {
        says(promise, NO_SUCH_SETS, () -> {
            takesOnly(0, 255, ARGUMENT, bySet);
            takesOnly(0, 255, ARGUMENT, byOther);
        });
    }

    private static void inTurn() {
        says(39, "Returns all PIECES, KEEPING, with the SET and the other one in turn (the first PIECE by the SET).", () -> {
            asks(x -> x.inTurn(3, 0, 255), "");
            asks(x -> x.inTurn(2, 32, 32), BARRED_BLANKS);
            asks(x -> x.inTurn(2, 0, 32), BLANKS);
            asks(x -> x.inTurn(2, 32, 0), " |" + " ".repeat(23));
            asks(x -> x.inTurn(0, 8, 1), "ab|,,c;|a|,,");
            asks(x -> x.inTurn(0, 1, 8), "a|b|,,c;|a|,,");
            asks(x -> x.inTurn(0, 255, 16), "a|b,,c|;|a,,");
        });
        needsText(39, (x, text) -> x.inTurn(text, 8, 8));
        needsSets(39, (x, set) -> x.inTurn(0, set, 8), (x, other) -> x.inTurn(0, 8, other));
        needsSets(39, (x, set) -> x.inTurn(3, set, 8), (x, other) -> x.inTurn(3, 8, other));
    }

    private static void whole() {
        says(40, "Returns all PIECES one behind the other, KEEPING (without \"|\").", () -> {
            for (int set : new int[] {0, 1, 8, 32, 224, 255}) {
                asks(x -> x.whole(3, set), "");
                asks(x -> x.whole(2, set), BLANKS);
                asks(x -> x.whole(0, set), "ab,,c;a,,");
            }
        });
        needsText(40, (x, text) -> x.whole(text, 8));
        needsSet(40, (x, set) -> x.whole(0, set));
        needsSet(40, (x, set) -> x.whole(3, set));
    }

    private static void without() {
        says(41, "Returns all PIECES one behind the other, not KEEPING (without \"|\").", () -> {
            asks(x -> x.without(3, 0), "");
            asks(x -> x.without(2, 0), BLANKS);
            asks(x -> x.without(2, 32), "");
            asks(x -> x.without(0, 255), "");
            asks(x -> x.without(0, 0), "ab,,c;a,,");
            asks(x -> x.without(0, 8), "abc;a");
            asks(x -> x.without(1, 224), "abc");
        });
        needsText(41, (x, text) -> x.without(text, 8));
        needsSet(41, (x, set) -> x.without(0, set));
        needsSet(41, (x, set) -> x.without(3, set));
    }

    private static void areLike() {
        says(42, "Returns whether both have the same PIECES, not KEEPING.", () -> {
            asks(x -> x.areLike(3, 3, 0), true);
            asks(x -> x.areLike(2, 3, 32), true);
            asks(x -> x.areLike(3, 2, 0), false);
            asks(x -> x.areLike(2, 2, 0), true);
            asks(x -> x.areLike(0, 1, 255), true);
            asks(x -> x.areLike(0, 1, 8), false);
            Tokenwalk x = typed(",a,,b");
            type(x, 1, "a,b,");
            type(x, 2, "a,b,c");
            type(x, 3, "ab");
            due(x.areLike(0, 1, 8), true);
            due(x.areLike(0, 1, 0), false);
            due(x.areLike(1, 2, 8), false);
            due(x.areLike(2, 1, 8), false);
            due(x.areLike(1, 3, 8), false);
        });
        says(42, "Throws `IndexOutOfBoundsException` if one or other is no TEXT", () -> {
            takesOnly(0, 3, INDEX, (x, one) -> x.areLike(one, 0, 8));
            takesOnly(0, 3, INDEX, (x, other) -> x.areLike(0, other, 8));
        });
        needsSet(42, (x, set) -> x.areLike(0, 1, set));
        needsSet(42, (x, set) -> x.areLike(3, 3, set));
    }

    // ---- the way

    private static void blank() {
        says(43, "A walker without a text wants to begin: it is counted.", () -> {
            Tokenwalk x = prepared();
            for (int i = 2; i <= 40; i++) {
                x.blank();
                due(x.house(4), i);
            }
            due(x.house(3), 0);
            due(x.house(5), 2);
            due(new Tokenwalk().house(4), 0);
        });
        says(43, "Returns -9.", () -> {
            Tokenwalk x = new Tokenwalk();
            due(x.blank(), -9);
            due(x.blank(), -9);
            due(prepared().blank(), -9);
        });
    }

    private static void knock() {
        says(44, "Knocks at a milestone.", () -> {
            Tokenwalk x = prepared();
            for (int i = 3; i <= 40; i++) {
                x.knock();
                due(x.house(5), i);
            }
            due(x.house(4), 1);
            due(new Tokenwalk().house(5), 0);
        });
        says(44, "Returns how often ever, with this.", () -> {
            Tokenwalk x = new Tokenwalk();
            due(x.knock(), 1);
            x.blank();
            due(x.knock(), 2);
            due(new Tokenwalk().knock(), 1);
            due(prepared().knock(), 3);
        });
    }

    private static void house() {
        says(45, "- `what`: 0 SIGNS of all TEXTS, 1 COUNT of all WALKERS, 2 HAD of all WALKERS, 3 how many REFUSALS there were ever (of calls that tell one PIECE), 4 how often -9 was told by blank(), 5 how often it was knocked", () -> {
            Tokenwalk x = new Tokenwalk();
            for (int i = 0; i < 4; i++) {
                type(x, i, "a,".repeat(i + 1));
                x.begin(i, i, 8, true);
                x.skip(i, i + 1);
            }
            x.blank();
            for (int i = 0; i < 2; i++) {
                x.knock();
            }
            houses(x, 20, 10, 10, 0, 1, 2);
            // none of these tells one PIECE, or has to tell one that there is not
            x.rest(0);
            x.both(0, 0);
            x.things(0);
            x.skip(0, 24);
            x.pieceAt(0, 8, true, 24);
            x.firstThen(0, 9, 9);
            houses(x, 20, 9, 11, 0, 1, 2);
            x.next(0);
            houses(x, 20, 11, 9, 1, 1, 2);
            x.take(0, 1);
            houses(x, 17, 10, 10, 1, 1, 2);
        });
        says(45, "Returns that.", () -> {
            int[] sums = {39, 8, 5, 0, 1, 2};
            for (int i = 0; i < sums.length; i++) {
                int what = i;
                asks(x -> x.house(what), sums[what]);
                due(new Tokenwalk().house(what), 0);
            }
            Tokenwalk full = new Tokenwalk();
            for (int i = 0; i < 4; i++) {
                full.typeOften(i, 5, 24);
                full.begin(i, i, 32, true);
            }
            due(full.house(0), 96);
            due(full.house(1), 96);
            full.both(0, 1);
            full.both(2, 3);
            due(full.house(1), 0);
            due(full.house(2), 96);
            due(full.house(3), 0);
            full.next(0);
            due(full.house(3), 1);
            due(full.house(2), 72);
        });
        says(45, "Throws `IllegalArgumentException` if what is not 0 to 5", () ->
            takesOnly(0, 5, ARGUMENT, (x, what) -> x.house(what)));
    }

    private static void houses(Tokenwalk x, int... sums) {
        for (int what = 0; what < sums.length; what++) {
            due(x.house(what), sums[what]);
        }
    }

    private static void isSound() {
        says(46, "Returns whether all of this is so: of each TEXT, by the SETS 224, 24, 1, 0 and 255: whole() is the TEXT; countOf() is how many PIECES are told one by one, KEEPING and not; inTurn() without its \"|\" is the TEXT (by each of these SETS and 24); and of each WALKER: it has a PIECE more just if COUNT is not 0, and so a THING.", () -> {
            due(isSoundByWords(new Tokenwalk()), true);
            due(new Tokenwalk().isSound(), true);
            due(isSoundByWords(prepared()), true);
            asks(x -> x.isSound(), true);
            Tokenwalk x = typed("ab,;c \t\n".repeat(3));
            for (int i = 0; i < 60; i++) {
                x.nextBy(i % 4, i * 37 % 256);
                x.take(i * 3 % 4, i % 3 + 1);
                x.begin(i * 7 % 4, i * 5 % 4, i * 91 % 256, i % 2 == 0);
                due(x.isSound(), true);
            }
            due(isSoundByWords(x), true);
        });
    }

    private static boolean isSoundByWords(Tokenwalk x) {
        boolean isSound = true;
        for (int text = 0; text < 4; text++) {
            String signs = x.text(text);
            for (int set : new int[] {224, 24, 1, 0, 255}) {
                isSound &= x.whole(text, set).equals(signs);
                isSound &= x.countOf(text, set, true) == howManyTold(x, text, set, true);
                isSound &= x.countOf(text, set, false) == howManyTold(x, text, set, false);
                isSound &= x.inTurn(text, set, 24).replace("|", "").equals(signs);
            }
        }
        for (int walker = 0; walker < 4; walker++) {
            isSound &= x.has(walker) == (x.count(walker) != 0);
            isSound &= x.hasThing(walker) == x.has(walker);
        }
        return isSound;
    }

    private static int howManyTold(Tokenwalk x, int text, int set, boolean isKeeping) {
        String told = x.pieces(text, set, isKeeping);
        return told.isEmpty() ? 0 : told.split("\\|").length;
    }

    private static void digest() {
        says(47, "Computes a checksum.", () -> {
            asks(x -> x.digest(), digestByWords(prepared()).longValue());
            Tokenwalk x = prepared();
            x.next(3);
            x.nextBy(1, 24);
            x.knock();
            x.take(2, 3);
            due(x.digest(), digestByWords(x).longValue());
        });
        says(47, "A number d starts with 7735; for each of the following numbers v, d becomes d * 31 + v, which wraps around as a 64-bit integer: house() of 0 to 5; TEXT by TEXT the codes of its signs (97 for \"a\"), countOf() by 224, 24 and 0, of each first KEEPING, then not; WALKER by WALKER count(), had(), setOf(), 1 if isKeeping(), otherwise 0, the length of textOf(); 1 if isSound(), otherwise 0.", () -> {
            BigInteger unwrapped = digestByWords(new Tokenwalk());
            due(unwrapped.bitLength() > 64, true);
            due(new Tokenwalk().digest(), unwrapped.longValue());
            due(new Tokenwalk().digest(), -3806448513533004694L);
            Tokenwalk x = new Tokenwalk();
            for (int i = 0; i < 4; i++) {
                x.typeOften(i, 7 - i, 24);
                x.begin(i, i, 255, i % 2 == 0);
            }
            due(x.digest(), digestByWords(x).longValue());
        });
        says(47, "Returns d.", () -> {
            Tokenwalk x = prepared();
            long d = x.digest();
            due(x.digest(), d);
            due(prepared().digest(), d);
            x.knock();
            due(x.digest() == d, false);
        });
    }
}
