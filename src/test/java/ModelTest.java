import java.util.ArrayList;
import java.util.List;
import java.util.NoSuchElementException;
import java.util.StringTokenizer;

/**
 * Long runs of calls, 512 on each object, held against a model that is written another way:
 * its texts are Strings and its walkers are the library's StringTokenizers.
 */
public final class ModelTest {
    private static final int RUNS = 600;
    private static final int CALLS = 512;
    private static final int DIGEST = 45;
    private static final String LETTERS = "abc,; \t\n";

    private static long seed;

    public static void main(String[] args) {
        int wrong = 0;
        for (int run = 0; run < RUNS && wrong < 10; run++) {
            seed = 1000003L * run + 17;
            if (!holds(run)) {
                wrong++;
            }
        }
        System.out.println(wrong == 0 ? "ModelTest: all " + RUNS + " runs agree" : "ModelTest: runs differ");
        if (wrong != 0) {
            System.exit(1);
        }
    }

    private static boolean holds(int run) {
        Tokenwalk x = new Tokenwalk();
        Model model = new Model();
        List<String> calls = new ArrayList<>();
        for (int i = 0; i < CALLS; i++) {
            // every eighth call is a digest, which shows what a call should not have changed
            int method = i % 8 == 7 ? DIGEST : pick(KINDS.length);
            int[] args = arguments(method);
            calls.add(method + " " + java.util.Arrays.toString(args));
            String got = answer(() -> onProgram(x, method, args));
            String want = answer(() -> model.call(method, args));
            if (!got.equals(want)) {
                System.out.println("run " + run + ", call " + i + ": answered <" + got + ">, due is <" + want + ">");
                calls.stream().skip(Math.max(0, calls.size() - 12)).forEach(System.out::println);
                return false;
            }
        }
        return true;
    }

    private interface Call {
        Object run();
    }

    private static String answer(Call call) {
        try {
            return String.valueOf(call.run());
        } catch (RuntimeException e) {
            return "throws." + e.getClass().getSimpleName();
        }
    }

    private static int pick(int many) {
        seed = seed * 6364136223846793005L + 1442695040888963407L;
        return (int) Long.remainderUnsigned(seed >>> 33, many);
    }

    // ---- arguments: a letter a parameter, by the order of the methods below

    private static final String[] KINDS = {
        "tg", "tgm", "tnd", "tm", "t", "ttt", "wt", "t", "tp", "t",
        "wtsk", "wts", "wt", "ww",
        "w", "ws", "w", "w", "w", "wt", "wm", "w", "w", "ww",
        "w", "w", "w", "wm", "w", "w", "w", "w", "ww",
        "tsk", "tsk", "tskp", "tss", "tss", "ts", "ts", "tts",
        "", "", "h", "", ""};

    private static int[] arguments(int method) {
        String kinds = KINDS[method];
        int[] args = new int[kinds.length()];
        for (int i = 0; i < args.length; i++) {
            args[i] = argument(kinds.charAt(i));
        }
        return args;
    }

    private static int argument(char kind) {
        if (kind != 'k' && pick(200) == 0) {
            return pick(2) == 0 ? Integer.MIN_VALUE : Integer.MAX_VALUE;
        }
        boolean isEdge = pick(30) == 0;
        switch (kind) {
            case 't': case 'w': return isEdge ? pick(2) * 5 - 1 : pick(4);
            case 'g': return isEdge ? pick(2) * 9 - 1 : pick(8);
            case 's': return isEdge ? pick(2) * 257 - 1 : pick(2) == 0 ? pick(256) : 1 << pick(8);
            case 'm': return isEdge ? pick(2) * 25 : 1 + pick(1 + pick(24));
            case 'd': return isEdge ? pick(2) * 11 : 1 + pick(10);
            case 'n': return isEdge ? -1 - pick(9) : pick(Integer.MAX_VALUE);
            case 'p': return isEdge ? -1 : pick(26);
            case 'h': return isEdge ? pick(2) * 7 - 1 : pick(6);
            default: return pick(2);
        }
    }

    private static Object onProgram(Tokenwalk x, int method, int[] a) {
        switch (method) {
            case 0: return x.type(a[0], a[1]);
            case 1: return x.typeOften(a[0], a[1], a[2]);
            case 2: return x.typeRow(a[0], a[1], a[2]);
            case 3: return x.drop(a[0], a[1]);
            case 4: return x.wipe(a[0]);
            case 5: return x.join(a[0], a[1], a[2]);
            case 6: return x.take(a[0], a[1]);
            case 7: return x.length(a[0]);
            case 8: return x.signAt(a[0], a[1]);
            case 9: return x.text(a[0]);
            case 10: return x.begin(a[0], a[1], a[2], a[3] == 1);
            case 11: return x.beginBy(a[0], a[1], a[2]);
            case 12: return x.beginPlain(a[0], a[1]);
            case 13: return x.beginLike(a[0], a[1]);
            case 14: return x.next(a[0]);
            case 15: return x.nextBy(a[0], a[1]);
            case 16: return x.thing(a[0]);
            case 17: return x.nextLength(a[0]);
            case 18: return x.nextFirst(a[0]);
            case 19: return x.isNext(a[0], a[1]);
            case 20: return x.skip(a[0], a[1]);
            case 21: return x.rest(a[0]);
            case 22: return x.things(a[0]);
            case 23: return x.both(a[0], a[1]);
            case 24: return x.has(a[0]);
            case 25: return x.hasThing(a[0]);
            case 26: return x.count(a[0]);
            case 27: return x.askOften(a[0], a[1]);
            case 28: return x.had(a[0]);
            case 29: return x.setOf(a[0]);
            case 30: return x.isKeeping(a[0]);
            case 31: return x.textOf(a[0]);
            case 32: return x.areEven(a[0], a[1]);
            case 33: return x.pieces(a[0], a[1], a[2] == 1);
            case 34: return x.countOf(a[0], a[1], a[2] == 1);
            case 35: return x.pieceAt(a[0], a[1], a[2] == 1, a[3]);
            case 36: return x.firstThen(a[0], a[1], a[2]);
            case 37: return x.inTurn(a[0], a[1], a[2]);
            case 38: return x.whole(a[0], a[1]);
            case 39: return x.without(a[0], a[1]);
            case 40: return x.areLike(a[0], a[1], a[2]);
            case 41: return x.blank();
            case 42: return x.knock();
            case 43: return x.house(a[0]);
            case 44: return x.isSound();
            default: return x.digest();
        }
    }

    // ---- the model

    private static String letters(int set) {
        StringBuilder parting = new StringBuilder();
        for (int i = 0; i < 8; i++) {
            if ((set & 1 << i) != 0) {
                parting.append(LETTERS.charAt(i));
            }
        }
        return parting.toString();
    }

    private static List<String> all(String text, int set, boolean keep) {
        StringTokenizer walk = new StringTokenizer(text, letters(set), keep);
        List<String> told = new ArrayList<>();
        while (walk.hasMoreTokens()) {
            told.add(walk.nextToken());
        }
        return told;
    }

    private static final class ModelWalker {
        String text = "";
        int set = 224;
        boolean keep;
        int had;
        StringTokenizer walk = new StringTokenizer("", letters(224), false);

        int start(String text, int set, boolean keep) {
            this.text = text;
            this.set = set;
            this.keep = keep;
            had = 0;
            walk = new StringTokenizer(text, letters(set), keep);
            return walk.countTokens();
        }

        String tell() {
            had++;
            return walk.nextToken();
        }
    }

    private static final class Model {
        final String[] texts = {"", "", "", ""};
        final ModelWalker[] walkers = {new ModelWalker(), new ModelWalker(), new ModelWalker(), new ModelWalker()};
        int refusals;
        int blanks;
        int knocks;

        Object call(int method, int[] a) {
            refuseIndices(method, a);
            refuseArguments(method, a);
            if (method <= 9) {
                return textCall(method, a);
            }
            if (method <= 23) {
                return walkCall(method, a);
            }
            return method <= 32 ? askCall(method, a) : method <= 40 ? pieceCall(method, a) : wayCall(method, a);
        }

        void refuseIndices(int method, int[] a) {
            for (int i = 0; i < a.length; i++) {
                char kind = KINDS[method].charAt(i);
                if ((kind == 't' || kind == 'w') && (a[i] < 0 || a[i] > 3)) {
                    throw new IndexOutOfBoundsException();
                }
            }
            if (method == 8 && (a[1] < 0 || a[1] >= texts[a[0]].length())) {
                throw new IndexOutOfBoundsException();
            }
        }

        void refuseArguments(int method, int[] a) {
            for (int i = 0; i < a.length; i++) {
                int v = a[i];
                boolean isFine;
                switch (KINDS[method].charAt(i)) {
                    case 'g': isFine = v >= 0 && v < 8; break;
                    case 's': isFine = v >= 0 && v < 256; break;
                    case 'm': isFine = v >= 1 && v <= (method == 3 ? texts[a[0]].length() : 24); break;
                    case 'd': isFine = v >= 1 && v <= 10; break;
                    case 'n': isFine = v >= 0; break;
                    case 'p': isFine = method == 8 || v >= 0 && v <= 24; break;
                    case 'h': isFine = v >= 0 && v < 6; break;
                    default: isFine = true;
                }
                if (!isFine) {
                    throw new IllegalArgumentException();
                }
            }
        }

        int become(int text, String signs) {
            if (signs.length() > 24) {
                throw new IllegalStateException();
            }
            texts[text] = signs;
            return signs.length();
        }

        Object textCall(int method, int[] a) {
            String text = texts[a[0]];
            switch (method) {
                case 0: return become(a[0], text + LETTERS.charAt(a[1]));
                case 1: return become(a[0], text + String.valueOf(LETTERS.charAt(a[1])).repeat(a[2]));
                case 2: return become(a[0], text + digits(a[1], a[2]));
                case 3: return become(a[0], text.substring(0, text.length() - a[1]));
                case 4: texts[a[0]] = ""; return text.length();
                case 5: return become(a[2], text + texts[a[1]]);
                case 6: return take(walkers[a[0]], a[1]);
                case 7: return text.length();
                case 8: return LETTERS.indexOf(text.charAt(a[1]));
                default: return text;
            }
        }

        String digits(int number, int many) {
            String octal = "0".repeat(12) + Integer.toOctalString(number);
            StringBuilder row = new StringBuilder();
            for (int i = 1; i <= many; i++) {
                row.append(LETTERS.charAt(octal.charAt(octal.length() - i) - '0'));
            }
            return row.toString();
        }

        int take(ModelWalker w, int text) {
            String piece = tellOne(w);
            return piece.isEmpty() ? texts[text].length() : become(text, piece);
        }

        String tellOne(ModelWalker w) {
            try {
                return w.tell();
            } catch (NoSuchElementException e) {
                refusals++;
                w.start(w.text, w.set, w.keep);
                return "";
            }
        }

        Object walkCall(int method, int[] a) {
            ModelWalker w = walkers[a[0]];
            String piece;
            switch (method) {
                case 10: return w.start(texts[a[1]], a[2], a[3] == 1);
                case 11: return w.start(texts[a[1]], a[2], false);
                case 12: return w.start(texts[a[1]], 224, false);
                case 13: return w.start(walkers[a[1]].text, walkers[a[1]].set, walkers[a[1]].keep);
                case 15: return tellOneBy(w, a[1]);
                case 17: return tellOne(w).length();
                case 18: piece = tellOne(w); return piece.isEmpty() ? -1 : LETTERS.indexOf(piece.charAt(0));
                case 19: return tellOne(w).equals(texts[a[1]]);
                case 20: return skip(w, a[1]).size();
                case 21: case 22: return String.join("|", skip(w, 24));
                case 23: return both(w, walkers[a[1]]);
                default: return tellOne(w);
            }
        }

        String tellOneBy(ModelWalker w, int set) {
            w.set = set;
            try {
                String piece = w.walk.nextToken(letters(set));
                w.had++;
                return piece;
            } catch (NoSuchElementException e) {
                return tellOne(w);
            }
        }

        List<String> skip(ModelWalker w, int many) {
            List<String> told = new ArrayList<>();
            while (told.size() < many && w.walk.hasMoreTokens()) {
                told.add(w.tell());
            }
            return told;
        }

        String both(ModelWalker one, ModelWalker other) {
            List<String> told = new ArrayList<>();
            ModelWalker turn = one;
            while (turn.walk.hasMoreTokens()) {
                told.add(turn.tell());
                turn = told.size() % 2 == 0 ? one : other;
            }
            return String.join("|", told);
        }

        Object askCall(int method, int[] a) {
            ModelWalker w = walkers[a[0]];
            int left = w.walk.countTokens();
            switch (method) {
                case 24: case 25: return w.walk.hasMoreTokens();
                case 26: return left;
                case 27: return a[1] * (left + (left > 0 ? 1 : 0));
                case 28: return w.had;
                case 29: return w.set;
                case 30: return w.keep;
                case 31: return w.text;
                default: return left == walkers[a[1]].walk.countTokens();
            }
        }

        Object pieceCall(int method, int[] a) {
            String text = texts[a[0]];
            List<String> told;
            switch (method) {
                case 33: return String.join("|", all(text, a[1], a[2] == 1));
                case 34: return all(text, a[1], a[2] == 1).size();
                case 35: told = all(text, a[1], a[2] == 1); return a[3] < told.size() ? told.get(a[3]) : "";
                case 36: return firstThen(text, a[1], a[2]);
                case 37: return inTurn(text, a[1], a[2]);
                case 38: return text;
                case 39: return String.join("", all(text, a[1], false));
                default: return all(text, a[2], false).equals(all(texts[a[1]], a[2], false));
            }
        }

        String firstThen(String text, int set, int other) {
            StringTokenizer walk = new StringTokenizer(text, letters(set));
            List<String> told = new ArrayList<>();
            while (true) {
                try {
                    told.add(told.isEmpty() ? walk.nextToken() : walk.nextToken(letters(other)));
                } catch (NoSuchElementException e) {
                    return String.join("|", told);
                }
            }
        }

        String inTurn(String text, int set, int other) {
            StringTokenizer walk = new StringTokenizer(text, "", true);
            List<String> told = new ArrayList<>();
            while (true) {
                try {
                    told.add(walk.nextToken(letters(told.size() % 2 == 0 ? set : other)));
                } catch (NoSuchElementException e) {
                    return String.join("|", told);
                }
            }
        }

        Object wayCall(int method, int[] a) {
            switch (method) {
                case 41: blanks++; return -9;
                case 42: return ++knocks;
                case 43: return house(a[0]);
                case 44: return true;
                default: return digest();
            }
        }

        int house(int what) {
            int[] sums = {0, 0, 0, refusals, blanks, knocks};
            for (int i = 0; i < 4; i++) {
                sums[0] += texts[i].length();
                sums[1] += walkers[i].walk.countTokens();
                sums[2] += walkers[i].had;
            }
            return sums[what];
        }

        long digest() {
            List<Integer> numbers = new ArrayList<>();
            for (int i = 0; i < 6; i++) {
                numbers.add(house(i));
            }
            for (String text : texts) {
                text.chars().forEach(numbers::add);
                for (int set : new int[] {224, 24, 0}) {
                    numbers.add(all(text, set, true).size());
                    numbers.add(all(text, set, false).size());
                }
            }
            for (ModelWalker w : walkers) {
                numbers.addAll(List.of(w.walk.countTokens(), w.had, w.set, w.keep ? 1 : 0, w.text.length()));
            }
            numbers.add(1);
            long d = 7735;
            for (int v : numbers) {
                d = d * 31 + v;
            }
            return d;
        }
    }
}
