import java.lang.reflect.Constructor;
import java.lang.reflect.Field;
import java.lang.reflect.Method;
import java.lang.reflect.Modifier;
import java.util.Arrays;
import java.util.Map;
import java.util.TreeMap;

/** The document's face, no more and no less. */
public final class FaceTest {
    private static final String[] METHODS = {
        "kind 1", "under 2", "subject 1", "set 3", "value 2", "book 1", "variable 3", "rule 3",
        "condition 4", "does 4", "order 3", "row 2", "run 2", "trace 2", "erred 0", "action 6", "act 2",
        "activity 3", "begin 2", "middle 0", "finish 0", "abandon 0", "scene 1", "anchor 4",
        "everyTurn 1", "turn 0", "event 1", "happens 2", "phrase 3", "choose 3", "count 1"};

    public static void main(String[] args) {
        Check check = new Check();
        constants(check);
        members(check);
        check.end();
    }

    private static void constants(Check check) {
        check.due("BAD", RuleBooks.BAD, -1);
        check.due("NO", RuleBooks.NO, -2);
        check.due("FULL", RuleBooks.FULL, -3);
        check.due("NONE", RuleBooks.NONE, -4);
        check.due("TWO", RuleBooks.TWO, -5);
    }

    private static void members(Check check) {
        Map<String, Integer> due = new TreeMap<>();
        for (String method : METHODS) {
            due.put(method, 1);
        }
        Map<String, Integer> found = new TreeMap<>();
        for (Method method : RuleBooks.class.getDeclaredMethods()) {
            if (Modifier.isPrivate(method.getModifiers())) {
                for (String name : METHODS) {
                    check.due("private " + method.getName(), name.startsWith(method.getName() + " ") ? 1 : 0, 0);
                }
                continue;
            }
            boolean ints = method.getReturnType() == int.class
                    && Arrays.stream(method.getParameterTypes()).allMatch(type -> type == int.class);
            check.due("ints in " + method.getName(), ints ? 1 : 0, 1);
            check.due("public " + method.getName(), Modifier.isPublic(method.getModifiers()) ? 1 : 0, 1);
            found.merge(method.getName() + " " + method.getParameterCount(), 1, Integer::sum);
        }
        check.dueText("the methods", found.keySet().toString(), due.keySet().toString());
        int fields = 0;
        for (Field field : RuleBooks.class.getDeclaredFields()) {
            fields += Modifier.isPrivate(field.getModifiers()) ? 0 : 1;
        }
        check.due("visible fields", fields, 5);
        Constructor<?>[] constructors = RuleBooks.class.getDeclaredConstructors();
        check.due("constructors", constructors.length, 1);
        check.due("public constructor", Modifier.isPublic(constructors[0].getModifiers()) ? 1 : 0, 1);
        check.due("its parameters", constructors[0].getParameterCount(), 0);
        check.due("final class", Modifier.isFinal(RuleBooks.class.getModifiers()) ? 1 : 0, 1);
        check.due("public class", Modifier.isPublic(RuleBooks.class.getModifiers()) ? 1 : 0, 1);
    }
}
