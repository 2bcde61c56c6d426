import java.lang.reflect.InvocationTargetException;
import java.lang.reflect.Method;
import java.lang.reflect.Modifier;
import java.util.ArrayList;
import java.util.HashMap;
import java.util.List;
import java.util.Map;
import java.util.Set;

/**
 * A run of calls on a new object, written as lines: "kind 0 = 1", "kind 7 = BAD" (what follows a # is
 * for the reader). "whole row 0 = 2 1", "whole trace = 2/1/1", "whole events = 0 3" and "whole counts
 * = .." ask for all of it at once.
 *
 * A line that is due BAD, NO or FULL in letters is a refused one: nothing may be changed by it, inside
 * the object too. In the end the other lines are said again to new objects, without the refused ones
 * and with each of them said up to three times: all answers must be the same.
 */
final class Play {
    private static final int PROMISED_CALLS = 512;
    /** How much is shown before and behind the place where the inside is not as it was. */
    private static final int SHOWN = 60;
    private static final Set<String> ASKING = Set.of(
            "under", "value", "row", "trace", "erred", "event", "happens", "choose", "count", "whole");
    private static final Map<String, Integer> WORDS = Map.of(
            "BAD", -1, "NO", -2, "FULL", -3, "NONE", -4, "TWO", -5,
            "MIN", Integer.MIN_VALUE, "MAX", Integer.MAX_VALUE);
    private static final Set<String> REFUSALS = Set.of("BAD", "NO", "FULL");
    private static final Map<String, Method> METHODS = publicMethods();

    private final Check check;
    private final String title;
    private final List<String> said = new ArrayList<>();
    private RuleBooks books = new RuleBooks();
    private int calls;

    Play(Check check, String title) {
        this.check = check;
        this.title = title;
    }

    /** A play that is over with these lines. */
    static void of(Check check, String title, String lines) {
        Play play = new Play(check, title);
        play.say(lines);
        play.end();
    }

    /** The lines with each {name} replaced by what stands behind that name. */
    static String fill(String lines, Object... namesAndItems) {
        String filled = lines;
        for (int i = 0; i < namesAndItems.length; i += 2) {
            filled = filled.replace("{" + namesAndItems[i] + "}", namesAndItems[i + 1].toString());
        }
        return filled;
    }

    private static Map<String, Method> publicMethods() {
        Map<String, Method> methods = new HashMap<>();
        for (Method method : RuleBooks.class.getDeclaredMethods()) {
            if (Modifier.isPublic(method.getModifiers())) {
                methods.put(method.getName(), method);
            }
        }
        return methods;
    }

    void say(String lines) {
        for (String line : lines.split("\n")) {
            String bare = line.replaceAll("#.*", "").strip();
            if (!bare.isEmpty()) {
                said.add(bare);
                sayLine(line.strip(), bare);
            }
        }
        if (calls > PROMISED_CALLS) {
            throw new IllegalStateException(title + ": nothing is promised of so many calls");
        }
    }

    void end() {
        int refused = (int) said.stream().filter(Play::isRefused).count();
        if (refused == 0) {
            return;
        }
        int more = Math.min(2, (PROMISED_CALLS - calls) / refused);
        sayAgain(0);
        sayAgain(1 + more);
    }

    private void sayAgain(int timesRefused) {
        books = new RuleBooks();
        for (String line : said) {
            for (int i = isRefused(line) ? timesRefused : 1; i > 0; i--) {
                sayLine("again, refused ones " + timesRefused + " times: " + line, line);
            }
        }
    }

    private static boolean isRefused(String bare) {
        return REFUSALS.contains(bare.substring(bare.indexOf('=') + 1).strip());
    }

    private void sayLine(String line, String bare) {
        int sign = bare.indexOf('=');
        String[] words = bare.substring(0, sign).strip().split(" +");
        String due = bare.substring(sign + 1).strip();
        boolean changesNothing = isRefused(bare) || ASKING.contains(words[0]);
        String before = changesNothing ? Inside.of(books) : "";
        String told = title + ": " + line;
        if (words[0].equals("whole")) {
            check.dueText(told, whole(words), due);
        } else {
            check.due(told, call(words), number(due));
        }
        if (changesNothing) {
            sameInside(told, before, Inside.of(books));
        }
    }

    private void sameInside(String told, String before, String after) {
        int at = 0;
        while (at < Math.min(before.length(), after.length()) && before.charAt(at) == after.charAt(at)) {
            at++;
        }
        int from = Math.max(0, at - SHOWN);
        check.dueText(told + ": the inside", after.substring(from, Math.min(after.length(), at + SHOWN)),
                before.substring(from, Math.min(before.length(), at + SHOWN)));
    }

    private static int number(String word) {
        Integer named = WORDS.get(word);
        return named != null ? named : Integer.parseInt(word);
    }

    private int call(String[] words) {
        Method method = METHODS.get(words[0]);
        Object[] arguments = new Object[words.length - 1];
        for (int i = 0; i < arguments.length; i++) {
            arguments[i] = number(words[i + 1]);
        }
        calls++;
        try {
            return (Integer) method.invoke(books, arguments);
        } catch (InvocationTargetException | IllegalAccessException thrown) {
            throw new IllegalStateException(title + ": " + String.join(" ", words), thrown);
        }
    }

    private String whole(String[] words) {
        switch (words[1]) {
            case "row":
                return untilNone("row " + words[2]);
            case "events":
                return untilNone("event");
            case "trace":
                return wholeTrace();
            case "counts":
                return wholeCounts();
            default:
                throw new IllegalStateException("whole " + words[1]);
        }
    }

    private int ask(String line) {
        return call(line.split(" "));
    }

    private String untilNone(String call) {
        List<String> answers = new ArrayList<>();
        for (int i = 0; i < PROMISED_CALLS; i++) {
            int answer = ask(call + " " + i);
            if (answer == RuleBooks.NONE) {
                break;
            }
            answers.add(Integer.toString(answer));
        }
        return String.join(" ", answers);
    }

    private String wholeTrace() {
        List<String> rows = new ArrayList<>();
        int length = ask("count 9");
        for (int i = 0; i < length; i++) {
            rows.add(ask("trace " + i + " 0") + "/" + ask("trace " + i + " 1") + "/" + ask("trace " + i + " 2"));
        }
        return String.join(" ", rows);
    }

    private String wholeCounts() {
        List<String> counts = new ArrayList<>();
        for (int what = 0; what <= 10; what++) {
            counts.add(Integer.toString(ask("count " + what)));
        }
        return String.join(" ", counts);
    }
}
