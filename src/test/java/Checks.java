import java.math.BigInteger;
import java.util.ArrayList;
import java.util.List;

/** What the project's tests stand on: objects made ready, calls asked, answers compared. */
class Checks {
    interface Call {
        Object on(Tokenwalk x);
    }

    interface IndexedCall {
        Object on(Tokenwalk x, int index);
    }

    interface TellingCall {
        String on(Tokenwalk x, int walker);
    }

    static final Class<?> INDEX = IndexOutOfBoundsException.class;
    static final Class<?> ARGUMENT = IllegalArgumentException.class;
    static final Class<?> STATE = IllegalStateException.class;
    static final int[] NO_INDEX = {-1, 4, Integer.MIN_VALUE, Integer.MAX_VALUE};
    static final int[] NO_SET = {-1, 256, Integer.MIN_VALUE, Integer.MAX_VALUE};
    static final String BLANKS = " ".repeat(24);

    /** All 24 blanks of a full text, told one by one. */
    static final String BARRED_BLANKS = " |".repeat(23) + " ";

    private static String subject = "";
    private static int checks;
    private static int checksOfSubject;
    private static int wrong;

    // ---- what is checked, and how it ends

    /** Makes the checks of one subject; one that makes none has forgotten something. */
    static void check(String what, Runnable test) {
        subject = what;
        checksOfSubject = 0;
        try {
            test.run();
        } catch (RuntimeException e) {
            report("stopped behind check " + checksOfSubject + " by " + e);
        }
        if (checksOfSubject == 0) {
            report("no check was made");
        }
    }

    static void report(String what) {
        report(subject, what);
    }

    static void report(String about, String what) {
        wrong++;
        System.out.println(about + ": " + what);
    }

    static void finish(String test) {
        System.out.println(test + ": " + (wrong == 0 ? "all " + checks + " checks hold" : wrong + " faults"));
        if (wrong != 0) {
            System.exit(1);
        }
    }

    // ---- answers

    static void due(Object got, Object want) {
        checks++;
        checksOfSubject++;
        if (!want.equals(got)) {
            report("check " + checksOfSubject + " answered <" + got + ">, due is <" + want + ">");
        }
    }

    static Object answer(Call call, Tokenwalk x) {
        try {
            return call.on(x);
        } catch (RuntimeException e) {
            return e.getClass();
        }
    }

    /** The call answers this and changes nothing. */
    static void asks(Call call, Object want) {
        Tokenwalk x = prepared();
        Tokenwalk untouched = prepared();
        due(answer(call, x), want);
        due(trace(x), trace(untouched));
    }

    /** The call throws just this, and the object goes on like one that it was never made on. */
    static void refuses(Class<?> exception, Call call) {
        asks(call, exception);
    }

    static void refusesEach(Class<?> exception, int[] numbers, IndexedCall call) {
        for (int number : numbers) {
            refuses(exception, x -> call.on(x, number));
        }
    }

    /** The first and the last number are taken; those next to them and the farthest ones are not. */
    static void takesOnly(int first, int last, Class<?> otherwise, IndexedCall call) {
        for (int number : new int[] {first, last}) {
            due(answer(x -> call.on(x, number), roomy()) instanceof Class, false);
        }
        for (int number : new int[] {first - 1, Integer.MIN_VALUE}) {
            refuses(otherwise, x -> call.on(x, number));
        }
        // behind the greatest of all numbers there is none to refuse
        if (last < Integer.MAX_VALUE) {
            refuses(otherwise, x -> call.on(x, last + 1));
            refuses(otherwise, x -> call.on(x, Integer.MAX_VALUE));
        }
    }

    /** All that an object tells of itself; at the end by walking on, which shows the places too. */
    static List<Object> trace(Tokenwalk x) {
        List<Object> all = new ArrayList<>();
        for (int i = 0; i < 4; i++) {
            all.add(x.text(i));
            all.add(x.length(i));
            all.add(x.textOf(i));
            all.add(x.setOf(i));
            all.add(x.isKeeping(i));
            all.add(x.had(i));
            all.add(x.count(i));
            all.add(x.has(i));
        }
        for (int i = 0; i < 6; i++) {
            all.add(x.house(i));
        }
        all.add(x.digest());
        for (int i = 0; i < 4; i++) {
            all.add(x.nextBy(i, 0));
        }
        return all;
    }

    /** The document's words for digest(), put together from the other promises, before it wraps around. */
    static BigInteger digestByWords(Tokenwalk x) {
        List<Integer> numbers = new ArrayList<>();
        for (int what = 0; what < 6; what++) {
            numbers.add(x.house(what));
        }
        for (int text = 0; text < 4; text++) {
            x.text(text).chars().forEach(numbers::add);
            for (int set : new int[] {224, 24, 0}) {
                numbers.addAll(List.of(x.countOf(text, set, true), x.countOf(text, set, false)));
            }
        }
        for (int walker = 0; walker < 4; walker++) {
            numbers.addAll(List.of(x.count(walker), x.had(walker), x.setOf(walker), x.isKeeping(walker) ? 1 : 0,
                x.textOf(walker).length()));
        }
        numbers.add(x.isSound() ? 1 : 0);
        BigInteger d = BigInteger.valueOf(7735);
        for (int v : numbers) {
            d = d.multiply(BigInteger.valueOf(31)).add(BigInteger.valueOf(v));
        }
        return d;
    }

    // ---- objects made ready

    /**
     * Texts: "ab,,c;a,,", "a b(tab)c(end)", 24 blanks, none. Walkers: 0 behind "ab" of text 0 by ",",
     * 1 the same but KEEPING and one "," further, 2 on text 1 by PLAIN, 3 on text 0 by ";" at its end.
     */
    static Tokenwalk prepared() {
        Tokenwalk x = new Tokenwalk();
        x.typeRow(0, 141000, 7);
        x.typeOften(0, 3, 2);
        x.typeRow(1, 240744, 6);
        x.typeOften(2, 5, 24);
        x.begin(0, 0, 8, false);
        x.next(0);
        x.begin(1, 0, 8, true);
        x.next(1);
        x.next(1);
        x.beginPlain(2, 1);
        x.begin(3, 0, 16, false);
        x.skip(3, 2);
        x.blank();
        x.knock();
        x.knock();
        return x;
    }

    /** Every text is "a,b,", and every walker is BEGUN with it: whatever is asked of one can be asked of each. */
    static Tokenwalk roomy() {
        Tokenwalk x = new Tokenwalk();
        for (int i = 0; i < 4; i++) {
            type(x, i, "a,b,");
            x.beginBy(i, i, 8);
        }
        return x;
    }

    static Tokenwalk typed(String signs) {
        Tokenwalk x = new Tokenwalk();
        type(x, 0, signs);
        return x;
    }

    static void type(Tokenwalk x, int text, String signs) {
        for (char c : signs.toCharArray()) {
            x.type(text, "abc,; \t\n".indexOf(c));
        }
    }
}
