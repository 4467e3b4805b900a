/** The sentences of promises 1 to 11, of texts: a test each. */
public final class TextSentencesTest extends Sentences {
    public static void main(String[] args) {
        newObject();
        type();
        typeOften();
        typeRow();
        drop();
        wipe();
        join();
        take();
        length();
        signAt();
        text();
        finish("TextSentencesTest", 1, 11);
    }

    private static void newObject() {
        says(1, "Creates empty TEXTS, and WALKERS that are BEGUN.", () -> {
            Tokenwalk used = prepared();
            Tokenwalk x = new Tokenwalk();
            for (int i = 0; i < 4; i++) {
                due(x.length(i), 0);
                due(x.text(i), "");
                due(x.textOf(i), "");
                due(x.count(i), 0);
                due(x.had(i), 0);
            }
            for (int what = 0; what < 6; what++) {
                due(x.house(what), 0);
            }
            due(used.house(0), 39);
        });
    }

    private static void type() {
        says(2, "Types a SIGN behind a TEXT.", () -> {
            Tokenwalk x = new Tokenwalk();
            for (int sign = 7; sign >= 0; sign--) {
                x.type(2, sign);
                due(x.signAt(2, 7 - sign), sign);
            }
            due(x.text(2), "\n\t ;,cba");
            due(x.house(0), 8);
            x.drop(2, 7);
            x.type(2, 1);
            due(x.text(2), "\nb");
        });
        says(2, "Returns how many it has then.", () -> {
            Tokenwalk x = new Tokenwalk();
            for (int i = 1; i <= 24; i++) {
                due(x.type(3, 7), i);
            }
            due(x.type(0, 0), 1);
            x.wipe(3);
            due(x.type(3, 0), 1);
        });
        says(2, "Throws `IndexOutOfBoundsException` if there is no such TEXT", () ->
            takesOnly(0, 3, INDEX, (x, text) -> x.type(text, 0)));
        says(2, "Throws `IllegalArgumentException` if sign is not 0 to 7", () ->
            takesOnly(0, 7, ARGUMENT, (x, sign) -> x.type(0, sign)));
        says(2, "Throws `IllegalStateException` if it has 24", () -> {
            Tokenwalk x = typed("a".repeat(23));
            due(x.type(0, 1), 24);
            due(answer(y -> y.type(0, 1), x), STATE);
            due(x.text(0), "a".repeat(23) + "b");
            x.drop(0, 1);
            due(x.type(0, 2), 24);
            refuses(STATE, y -> y.type(2, 0));
            refuses(STATE, y -> y.type(2, 7));
        });
    }

    private static void typeOften() {
        says(3, "Types a SIGN again and again.", () -> {
            Tokenwalk x = new Tokenwalk();
            for (int sign = 0; sign < 8; sign++) {
                x.typeOften(1, sign, 3);
            }
            due(x.text(1), "aaabbbccc,,,;;;   \t\t\t\n\n\n");
            due(x.house(0), 24);
        });
        says(3, "Returns how many it has then.", () -> {
            Tokenwalk x = new Tokenwalk();
            due(x.typeOften(0, 2, 1), 1);
            due(x.typeOften(0, 2, 22), 23);
            due(x.typeOften(0, 2, 1), 24);
            due(x.typeOften(3, 7, 24), 24);
        });
        says(3, "Throws `IndexOutOfBoundsException` if there is no such TEXT", () ->
            takesOnly(0, 3, INDEX, (x, text) -> x.typeOften(text, 0, 1)));
        says(3, "Throws `IllegalArgumentException` if sign is not 0 to 7, or many not 1 to 24", () -> {
            takesOnly(0, 7, ARGUMENT, (x, sign) -> x.typeOften(0, sign, 1));
            refusesEach(ARGUMENT, new int[] {Integer.MIN_VALUE, -1, 0, 25, Integer.MAX_VALUE}, (x, many) -> x.typeOften(3, 0, many));
            due(new Tokenwalk().typeOften(3, 0, 1), 1);
            due(new Tokenwalk().typeOften(3, 0, 24), 24);
        });
        says(3, "Throws `IllegalStateException` if it would have more than 24", () -> {
            due(prepared().typeOften(0, 0, 15), 24);
            refuses(STATE, x -> x.typeOften(0, 0, 16));
            refuses(STATE, x -> x.typeOften(0, 0, 24));
            refuses(STATE, x -> x.typeOften(2, 0, 1));
        });
    }

    private static void typeRow() {
        says(4, "Types a row of SIGNS: the digits of a number by 8, the lowest one first, as many as told.", () -> {
            Tokenwalk x = new Tokenwalk();
            x.typeRow(0, 076543210, 8);
            due(x.text(0), "abc,; \t\n");
            x.typeRow(0, 0321, 2);
            due(x.text(0), "abc,; \t\nbc");
            x.typeRow(0, 5, 3);
            due(x.text(0), "abc,; \t\nbc aa");
            x.typeRow(1, 017777777776, 10);
            due(x.text(1), "\t\n\n\n\n\n\n\n\n\n");
            x.typeRow(2, 010000000000, 10);
            due(x.text(2), "aaaaaaaaaa");
        });
        says(4, "Returns how many it has then.", () -> {
            Tokenwalk x = new Tokenwalk();
            due(x.typeRow(0, 0, 1), 1);
            due(x.typeRow(0, Integer.MAX_VALUE, 10), 11);
            due(x.typeRow(0, 0, 10), 21);
            due(x.typeRow(0, 7 * 8 * 8, 3), 24);
            due(x.text(0), "a" + "\n".repeat(10) + "a".repeat(12) + "\n");
            due(x.typeRow(3, 8, 1), 1);
            due(x.text(3), "a");
        });
        says(4, "Throws `IndexOutOfBoundsException` if there is no such TEXT", () ->
            takesOnly(0, 3, INDEX, (x, text) -> x.typeRow(text, 0, 1)));
        says(4, "Throws `IllegalArgumentException` if number is below 0, or many is not 1 to 10", () -> {
            takesOnly(0, Integer.MAX_VALUE, ARGUMENT, (x, number) -> x.typeRow(0, number, 1));
            takesOnly(1, 10, ARGUMENT, (x, many) -> x.typeRow(0, 0, many));
        });
        says(4, "Throws `IllegalStateException` if it would have more than 24", () -> {
            Tokenwalk x = typed("a".repeat(14));
            due(x.typeRow(0, 1, 10), 24);
            x = typed("a".repeat(15));
            due(answer(y -> y.typeRow(0, 1, 10), x), STATE);
            due(x.text(0), "a".repeat(15));
            due(x.typeRow(0, 1, 9), 24);
            refuses(STATE, y -> y.typeRow(2, 0, 1));
        });
    }

    private static void drop() {
        says(5, "Takes the last SIGNS away.", () -> {
            Tokenwalk x = prepared();
            x.drop(0, 4);
            due(x.text(0), "ab,,c");
            x.drop(0, 1);
            due(x.text(0), "ab,,");
            x.type(0, 4);
            due(x.text(0), "ab,,;");
            x.drop(0, 5);
            due(x.text(0), "");
            due(x.text(1), "a b\tc\n");
            due(x.textOf(0), "ab,,c;a,,");
        });
        says(5, "Returns how many are left.", () -> {
            Tokenwalk x = prepared();
            due(x.drop(2, 1), 23);
            due(x.drop(2, 22), 1);
            due(x.drop(2, 1), 0);
            due(x.drop(0, 2), 7);
            due(x.text(0), "ab,,c;a");
            due(prepared().drop(2, 24), 0);
        });
        says(5, "Throws `IndexOutOfBoundsException` if there is no such TEXT", () ->
            takesOnly(0, 3, INDEX, (x, text) -> x.drop(text, 1)));
        says(5, "Throws `IllegalArgumentException` if many is not 1 to how many it has", () -> {
            due(prepared().drop(0, 1), 8);
            due(prepared().drop(0, 9), 0);
            refusesEach(ARGUMENT, new int[] {Integer.MIN_VALUE, -1, 0, 10, Integer.MAX_VALUE}, (x, many) -> x.drop(0, many));
            due(prepared().drop(2, 24), 0);
            refuses(ARGUMENT, x -> x.drop(2, 25));
            refuses(ARGUMENT, x -> x.drop(3, 1));
            refuses(ARGUMENT, x -> x.drop(3, 0));
        });
    }

    private static void wipe() {
        says(6, "Takes all SIGNS away.", () -> {
            Tokenwalk x = prepared();
            x.wipe(0);
            due(x.text(0), "");
            due(x.length(0), 0);
            x.wipe(2);
            due(x.house(0), 6);
            due(x.text(1), "a b\tc\n");
            due(x.textOf(0), "ab,,c;a,,");
            x.type(0, 4);
            due(x.text(0), ";");
        });
        says(6, "Returns how many it had.", () -> {
            Tokenwalk x = prepared();
            due(x.wipe(3), 0);
            due(x.wipe(2), 24);
            due(x.wipe(2), 0);
            due(x.text(2), "");
            due(x.wipe(0), 9);
            due(x.house(0), 6);
        });
        says(6, "Throws `IndexOutOfBoundsException` if there is no such TEXT", () ->
            takesOnly(0, 3, INDEX, (x, text) -> x.wipe(text)));
    }

    private static void join() {
        says(7, "A TEXT becomes two others, one behind the other.", () -> {
            Tokenwalk x = prepared();
            x.join(1, 1, 2);
            due(x.text(2), "a b\tc\na b\tc\n");
            due(x.text(1), "a b\tc\n");
            x.join(1, 3, 2);
            due(x.text(2), "a b\tc\n");
            x.join(3, 1, 0);
            due(x.text(0), "a b\tc\n");
            due(x.textOf(0), "ab,,c;a,,");
        });
        says(7, "- `one`: the TEXT whose SIGNS come first", () -> {
            Tokenwalk x = typed("ab");
            type(x, 1, ",;");
            x.join(0, 1, 2);
            due(x.text(2), "ab,;");
            x.join(1, 0, 3);
            due(x.text(3), ",;ab");
        });
        says(7, "- `to`: which TEXT becomes it (perhaps one of both)", () -> {
            Tokenwalk x = typed("ab");
            type(x, 1, ",;");
            due(x.join(0, 1, 0), 4);
            due(x.text(0), "ab,;");
            due(x.text(1), ",;");
            due(x.join(0, 1, 1), 6);
            due(x.text(0), "ab,;");
            due(x.text(1), "ab,;,;");
            due(x.join(0, 0, 0), 8);
            due(x.text(0), "ab,;ab,;");
            due(x.join(3, 0, 0), 8);
            due(x.text(0), "ab,;ab,;");
            due(x.join(0, 3, 3), 8);
            due(x.text(3), "ab,;ab,;");
        });
        says(7, "Returns how many SIGNS it has then.", () -> {
            Tokenwalk x = prepared();
            due(x.join(0, 1, 0), 15);
            due(x.text(0), "ab,,c;a,,a b\tc\n");
            due(x.join(3, 3, 1), 0);
            due(x.text(1), "");
            due(x.join(2, 3, 1), 24);
            due(x.text(1), BLANKS);
            due(x.join(3, 2, 3), 24);
            due(x.text(3), BLANKS);
        });
        says(7, "Throws `IndexOutOfBoundsException` if one, other or to is no TEXT", () -> {
            takesOnly(0, 3, INDEX, (x, one) -> x.join(one, 0, 0));
            takesOnly(0, 3, INDEX, (x, other) -> x.join(0, other, 0));
            takesOnly(0, 3, INDEX, (x, to) -> x.join(0, 0, to));
        });
        says(7, "Throws `IllegalStateException` if it would have more than 24", () -> {
            Tokenwalk x = typed("a".repeat(12));
            due(x.join(0, 0, 1), 24);
            x.type(0, 2);
            due(answer(y -> y.join(0, 0, 0), x), STATE);
            due(x.text(0), "a".repeat(12) + "c");
            x.drop(1, 13);
            due(x.join(1, 0, 2), 24);
            refuses(STATE, y -> y.join(2, 0, 3));
            refuses(STATE, y -> y.join(2, 2, 2));
        });
    }

    private static void take() {
        says(8, "A TEXT becomes the next PIECE that a WALKER tells; it stays as it is with a REFUSAL.", () -> {
            Tokenwalk x = prepared();
            x.take(0, 1);
            due(x.text(1), "c;a");
            x.take(0, 1);
            due(x.text(1), "c;a");
            due(x.house(3), 1);
            due(x.had(0), 0);
            x.take(0, 1);
            due(x.text(1), "ab");
            x.take(3, 2);
            due(x.text(2), BLANKS);
            x.beginPlain(2, 3);
            x.take(2, 2);
            due(x.text(2), BLANKS);
            due(x.house(3), 3);
            x.take(0, 0);
            due(x.text(0), "c;a");
            due(x.textOf(0), "ab,,c;a,,");
        });
        says(8, "Returns how many SIGNS it has then.", () -> {
            Tokenwalk x = prepared();
            due(x.take(0, 2), 3);
            due(x.take(0, 2), 3);
            due(x.take(0, 2), 2);
            due(x.take(1, 0), 1);
            due(x.take(3, 3), 0);
            x.typeOften(3, 0, 24);
            x.beginBy(3, 3, 0);
            due(x.take(3, 1), 24);
            due(x.take(3, 3), 24);
        });
        says(8, "Throws `IndexOutOfBoundsException` if there is no such WALKER or TEXT", () -> {
            takesOnly(0, 3, INDEX, (x, walker) -> x.take(walker, 0));
            takesOnly(0, 3, INDEX, (x, text) -> x.take(0, text));
            refusesEach(INDEX, NO_INDEX, (x, text) -> x.take(3, text));
        });
    }

    private static void length() {
        says(9, "Returns how many SIGNS it has.", () -> {
            asks(x -> x.length(3), 0);
            asks(x -> x.length(2), 24);
            asks(x -> x.length(0), 9);
            asks(x -> x.length(1), 6);
        });
        says(9, "Throws `IndexOutOfBoundsException` if there is no such TEXT", () ->
            takesOnly(0, 3, INDEX, (x, text) -> x.length(text)));
    }

    private static void signAt() {
        says(10, "Returns the SIGN there.", () -> {
            int[] signs = {0, 1, 3, 3, 2, 4, 0, 3, 3};
            for (int i = 0; i < signs.length; i++) {
                int place = i;
                asks(x -> x.signAt(0, place), signs[place]);
            }
            asks(x -> x.signAt(2, 0), 5);
            asks(x -> x.signAt(2, 23), 5);
            asks(x -> x.signAt(1, 5), 7);
        });
        says(10, "Throws `IndexOutOfBoundsException` if there is no such TEXT or place", () -> {
            takesOnly(0, 3, INDEX, (x, text) -> x.signAt(text, 0));
            asks(x -> x.signAt(0, 0), 0);
            asks(x -> x.signAt(0, 8), 3);
            refusesEach(INDEX, new int[] {Integer.MIN_VALUE, -1, 9, Integer.MAX_VALUE}, (x, place) -> x.signAt(0, place));
            refuses(INDEX, x -> x.signAt(2, 24));
            refuses(INDEX, x -> x.signAt(3, 0));
            Tokenwalk cut = prepared();
            cut.drop(0, 1);
            due(answer(x -> x.signAt(0, 8), cut), INDEX);
            due(cut.signAt(0, 7), 3);
        });
    }

    private static void text() {
        says(11, "Returns its SIGNS.", () -> {
            asks(x -> x.text(3), "");
            asks(x -> x.text(2), BLANKS);
            asks(x -> x.text(0), "ab,,c;a,,");
            asks(x -> x.text(1), "a b\tc\n");
        });
        says(11, "Throws `IndexOutOfBoundsException` if there is no such TEXT", () ->
            takesOnly(0, 3, INDEX, (x, text) -> x.text(text)));
    }
}
