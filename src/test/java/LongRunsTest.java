import java.lang.reflect.InvocationTargetException;
import java.lang.reflect.Method;
import java.util.ArrayList;
import java.util.Comparator;
import java.util.List;

/**
 * All promises: 512 calls on each of many objects, next to PlainModel. The calls come from a fixed
 * row of numbers, so that each time they are the same ones.
 */
public final class LongRunsTest {
    private static final int OBJECTS = 1500;
    private static final int CALLS = 512;
    private static final int SHOWN = 12;

    /** How often a method is called, to the others; one that is not here once. */
    private static final String[] OFTEN = {
        "rule 8", "condition 10", "does 14", "order 6", "run 12", "trace 6", "act 5", "anchor 6", "turn 6",
        "choose 4", "phrase 5", "set 4", "begin 3", "row 5", "variable 3", "count 3", "event 3", "kind 2", "erred 2"};

    /** What most arguments lie below, by method. */
    private static final String[] BELOW = {
        "kind 8", "under 8 8", "subject 8", "set 4 4 4", "value 4 4", "book 100", "variable 6 4 4", "rule 6 3 3",
        "condition 40 17 5 4", "does 40 9 5 4", "order 40 6 40", "row 6 20", "run 6 4", "trace 60 3",
        "action 6 6 6 6 6 6", "act 6 4", "activity 6 6 6", "begin 6 4", "scene 2", "anchor 8 2 5 8", "everyTurn 6",
        "event 6", "happens 8 2", "phrase 3 8 8", "choose 3 8 8", "count 11"};

    private static final int[] WILD = {
        -1, -2, -3, -4, -5, -10, 4, 10, 12, 16, 19, 20, 60, 79, 80, 99, 100, 300,
        Integer.MIN_VALUE, Integer.MAX_VALUE};

    private static long seed;

    public static void main(String[] args) throws IllegalAccessException, NoSuchMethodException {
        List<Method> methods = weighted();
        for (int object = 0; object < OBJECTS; object++) {
            seed = 7919L * object + 1;
            if (!sameAnswers(object, methods)) {
                System.exit(1);
            }
        }
    }

    private static List<Method> weighted() {
        List<Method> all = new ArrayList<>();
        List<Method> sorted = new ArrayList<>();
        for (Method method : RuleBooks.class.getDeclaredMethods()) {
            if (java.lang.reflect.Modifier.isPublic(method.getModifiers())) {
                sorted.add(method);
            }
        }
        sorted.sort(Comparator.comparing(Method::getName));
        for (Method method : sorted) {
            for (int i = numbersFor(OFTEN, method.getName(), 1)[0]; i > 0; i--) {
                all.add(method);
            }
        }
        return all;
    }

    private static int[] numbersFor(String[] table, String name, int otherwise) {
        for (String line : table) {
            String[] words = line.split(" ");
            if (words[0].equals(name)) {
                int[] numbers = new int[words.length - 1];
                for (int i = 1; i < words.length; i++) {
                    numbers[i - 1] = Integer.parseInt(words[i]);
                }
                return numbers;
            }
        }
        return new int[] {otherwise};
    }

    /** The next number of the fixed row, 0 .. below - 1. */
    private static int next(int below) {
        seed = seed * 6364136223846793005L + 1442695040888963407L;
        return (int) ((seed >>> 33) % below);
    }

    private static boolean sameAnswers(int object, List<Method> methods) throws IllegalAccessException, NoSuchMethodException {
        RuleBooks real = new RuleBooks();
        PlainModel model = new PlainModel();
        List<String> told = new ArrayList<>();
        // Some objects hear hardly any wrong numbers, so that they come far; some hear many.
        int wildOneIn = object % 3 == 0 ? 6 : 60;
        for (int call = 0; call < CALLS; call++) {
            Method method = call < 24 ? starter(call) : methods.get(next(methods.size()));
            Object[] arguments = call < 24 ? starterArguments(method) : arguments(method, wildOneIn);
            Object due = answer(PlainModel.class.getDeclaredMethod(method.getName(), method.getParameterTypes()), model, arguments);
            Object got = answer(method, real, arguments);
            told.add(method.getName() + java.util.Arrays.toString(arguments) + " = " + got);
            if (!due.equals(got)) {
                System.out.println("object " + object + ", call " + call + ", due is " + due + ":");
                told.subList(Math.max(0, told.size() - SHOWN), told.size()).forEach(System.out::println);
                return false;
            }
        }
        return true;
    }

    /** The first calls make kinds, subjects, books and scenes, as without them all else is BAD. */
    private static Method starter(int call) throws NoSuchMethodException {
        String[] names = {"kind", "subject", "book", "scene", "rule", "rule"};
        String name = names[call % names.length];
        return name.equals("rule") ? RuleBooks.class.getMethod(name, int.class, int.class, int.class)
                : RuleBooks.class.getMethod(name, int.class);
    }

    private static Object[] starterArguments(Method method) {
        if (method.getName().equals("rule")) {
            return new Object[] {0, next(3), next(3)};
        }
        return new Object[] {method.getName().equals("book") ? next(100) : next(2)};
    }

    private static Object[] arguments(Method method, int wildOneIn) {
        Object[] arguments = new Object[method.getParameterCount()];
        int[] below = numbersFor(BELOW, method.getName(), 1);
        for (int i = 0; i < arguments.length; i++) {
            arguments[i] = next(wildOneIn) == 0 ? WILD[next(WILD.length)] : next(below[i]);
            boolean books = method.getName().equals("action") || method.getName().equals("activity");
            if (books && next(4) == 0) {
                arguments[i] = RuleBooks.NONE;
            }
        }
        return arguments;
    }

    private static Object answer(Method method, Object whose, Object[] arguments) throws IllegalAccessException {
        try {
            return method.invoke(whose, arguments);
        } catch (InvocationTargetException thrown) {
            return thrown.getCause();
        }
    }
}
