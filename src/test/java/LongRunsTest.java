import java.lang.reflect.InvocationTargetException;
import java.lang.reflect.Method;
import java.lang.reflect.Modifier;
import java.util.ArrayList;
import java.util.Arrays;
import java.util.Comparator;
import java.util.HashMap;
import java.util.List;
import java.util.Map;

/**
 * All promises: 512 calls on each of many objects, next to PlainModel. The calls come from a fixed
 * row of numbers, so that each time they are the same ones.
 */
public final class LongRunsTest {
    private static final int OBJECTS = 1000;
    private static final int CALLS = 512;
    private static final int SHOWN = 12;

    /**
     * By method: how often it is called, to the others, and what most of its arguments lie below: a
     * number, or how many there are of what count() tells by that letter's place in LETTERS.
     */
    private static final String[] TABLE = {
        "kind 2 k", "under 1 k k", "subject 2 k", "set 4 s 4 4", "value 4 s 4", "book 1 100",
        "variable 3 b 4 4", "rule 7 b 3 3", "condition 10 r 17 x 3", "does 16 r 9 x 4", "order 6 r 6 r",
        "row 6 b 12", "run 14 b s", "trace 8 t 3", "erred 3", "action 1 b b b b b b", "act 8 a s",
        "activity 1 b b b", "begin 4 v s", "middle 3", "finish 3", "abandon 1", "scene 1 2",
        "anchor 6 c 2 5 x", "everyTurn 1 b", "turn 6", "event 5 5", "happens 3 c 2", "phrase 5 3 k k",
        "choose 6 3 s s", "count 3 11"};
    private static final String LETTERS = "ksbravocpt";

    private static final int[] WILD = {
        -1, -2, -3, -4, -5, -10, 4, 8, 10, 12, 16, 19, 20, 60, 79, 80, 99, 100, 300,
        Integer.MIN_VALUE, Integer.MAX_VALUE};

    private static final String[] STARTERS = {"kind", "subject", "book", "scene", "rule", "rule"};
    private static final int STARTING = 30;

    private final Map<String, Method> real = publicMethods();
    private final Map<String, Method> plain = methodsOf(PlainModel.class);
    private final List<String[]> lines = new ArrayList<>();
    private final Map<String, Integer> met = new HashMap<>();
    private long seed;

    public static void main(String[] args) throws IllegalAccessException {
        LongRunsTest test = new LongRunsTest();
        for (int object = 0; object < OBJECTS; object++) {
            if (!test.sameAnswers(object)) {
                System.exit(1);
            }
        }
        test.metAll();
    }

    private LongRunsTest() {
        for (String line : TABLE) {
            String[] words = line.split(" ");
            for (int i = Integer.parseInt(words[1]); i > 0; i--) {
                lines.add(words);
            }
        }
    }

    private static Map<String, Method> publicMethods() {
        Map<String, Method> methods = methodsOf(RuleBooks.class);
        methods.values().removeIf(method -> !Modifier.isPublic(method.getModifiers()));
        return methods;
    }

    private static Map<String, Method> methodsOf(Class<?> from) {
        Map<String, Method> methods = new HashMap<>();
        for (Method method : from.getDeclaredMethods()) {
            methods.put(method.getName(), method);
        }
        return methods;
    }

    /** The next number of the fixed row, 0 .. below - 1. */
    private int next(int below) {
        seed = seed * 6364136223846793005L + 1442695040888963407L;
        return (int) ((seed >>> 33) % below);
    }

    private boolean sameAnswers(int object) throws IllegalAccessException {
        RuleBooks books = new RuleBooks();
        PlainModel model = new PlainModel();
        List<String> told = new ArrayList<>();
        seed = 7919L * object + 1;
        // Some objects hear hardly any wrong numbers, so that they come far; some hear many.
        int wildOneIn = object % 3 == 0 ? 8 : 80;
        boolean ladder = object % 2 == 0;
        for (int call = 0; call < CALLS; call++) {
            String[] line = call < STARTING ? lineOf(STARTERS[call % STARTERS.length]) : nextLine(object);
            Object[] arguments = arguments(line, call < STARTING ? CALLS : wildOneIn, model);
            if (ladder && line[0].equals("does")) {
                climb(arguments, model);
            }
            Object due = answer(plain.get(line[0]), model, arguments);
            Object got = answer(real.get(line[0]), books, arguments);
            told.add(line[0] + Arrays.toString(arguments) + " = " + got);
            met.merge(line[0] + " " + due, 1, Integer::sum);
            if (!due.equals(got)) {
                System.out.println("object " + object + ", call " + call + ", due is " + due + ":");
                told.subList(Math.max(0, told.size() - SHOWN), told.size()).forEach(System.out::println);
                return false;
            }
        }
        return true;
    }

    /** Each object has a method that it hears more often than others do, so that all come to be full. */
    private String[] nextLine(int object) {
        return next(6) == 0 ? TABLE[object % TABLE.length].split(" ") : lines.get(next(lines.size()));
    }

    private static String[] lineOf(String name) {
        return Arrays.stream(TABLE).map(line -> line.split(" ")).filter(words -> words[0].equals(name))
                .findFirst().orElseThrow();
    }

    private Object[] arguments(String[] line, int wildOneIn, PlainModel model) {
        Object[] arguments = new Object[line.length - 2];
        for (int i = 0; i < arguments.length; i++) {
            arguments[i] = next(wildOneIn) == 0 ? WILD[next(WILD.length)] : next(below(line[i + 2], model));
            boolean books = line[0].equals("action") || line[0].equals("activity");
            if (books && next(3) == 0) {
                arguments[i] = RuleBooks.NONE;
            }
        }
        return arguments;
    }

    private int below(String word, PlainModel model) {
        if (Character.isDigit(word.charAt(0))) {
            return Integer.parseInt(word);
        }
        int what = word.equals("x") ? new int[] {2, 3, 7}[next(3)] : LETTERS.indexOf(word);
        return Math.max(1, model.count(what));
    }

    /**
     * Books that lead to later ones alone, and rules that seldom end a run: so a call comes to many
     * rules before its runs are too deep.
     */
    private void climb(Object[] deed, PlainModel model) {
        int code = (Integer) deed[1];
        boolean ends = code == 1 || code == 4 || code == 7;
        if (ends && next(8) != 0) {
            deed[1] = 5;
        }
        if (ends || code == 5 || code == 6) {
            deed[2] = model.bookOf((Integer) deed[0]) + 1;
        }
    }

    private static Object answer(Method method, Object whose, Object[] arguments) throws IllegalAccessException {
        try {
            return method.invoke(whose, arguments);
        } catch (InvocationTargetException thrown) {
            return thrown.getCause();
        }
    }

    /** A test of long runs that no longer come to these answers would not be worth much. */
    private void metAll() {
        String[] due = {
            "erred 1", "erred 2", "erred 3", "kind -3", "book -3", "rule -3", "condition -3", "action -3",
            "activity -3", "begin -3", "scene -3", "phrase -3", "phrase -2", "anchor -2", "choose -5", "finish -2",
            "turn 8", "begin -10", "finish -10", "turn -10", "trace 6"};
        Arrays.stream(due).filter(answer -> !met.containsKey(answer)).sorted(Comparator.naturalOrder())
                .forEach(answer -> {
                    System.out.println("never met: " + answer);
                    System.exit(1);
                });
    }
}
