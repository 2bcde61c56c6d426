import java.util.ArrayDeque;
import java.util.ArrayList;
import java.util.Arrays;
import java.util.Comparator;
import java.util.Deque;
import java.util.HashMap;
import java.util.HashSet;
import java.util.LinkedHashMap;
import java.util.List;
import java.util.Map;
import java.util.Set;
import java.util.function.BooleanSupplier;
import java.util.stream.Collectors;
import java.util.stream.IntStream;

/**
 * The document written a second time, in another way (sets, maps, sorting, exceptions) and without
 * a thought for speed, so that a slip of the class is not repeated here.
 */
final class PlainModel {
    private static final int BAD = -1, NO = -2, FULL = -3, NONE = -4, TWO = -5;

    private static final class Err extends RuntimeException {
        private static final long serialVersionUID = 1L;
        final int rule;
        final int code;

        Err(int rule, int code) {
            this.rule = rule;
            this.code = code;
        }
    }

    private record Told(int code, int x, int y) { }

    private static final class RuleNotes {
        int book;
        int section;
        int special;
        List<Told> conditions = new ArrayList<>();
        Told deed = new Told(0, 0, 0);
    }

    private final List<Set<Integer>> kinds = new ArrayList<>(List.of(Set.of(0)));
    private final List<Integer> subjectKinds = new ArrayList<>();
    private final List<int[]> values = new ArrayList<>();
    private final List<Integer> defaults = new ArrayList<>();
    private final List<int[]> firsts = new ArrayList<>();
    private final List<RuleNotes> rules = new ArrayList<>();
    private final LinkedHashMap<Integer, int[]> orders = new LinkedHashMap<>();
    private final List<int[]> actions = new ArrayList<>();
    private final List<int[]> activities = new ArrayList<>();
    private final Deque<int[]> open = new ArrayDeque<>();
    private final List<Boolean> again = new ArrayList<>();
    private final Set<Integer> happening = new HashSet<>();
    private final Map<Integer, Integer> began = new HashMap<>();
    private final Map<Integer, int[]> anchors = new HashMap<>();
    private final List<int[]> phrases = new ArrayList<>();
    private List<int[]> trace = new ArrayList<>();
    private List<Integer> events = new ArrayList<>();
    private int erred;
    private int clock;
    private int turnBook = NONE;

    private static boolean in(int number, List<?> list) {
        return 0 <= number && number < list.size();
    }

    private static boolean in(int number, int low, int high) {
        return low <= number && number <= high;
    }

    private static <T> int append(List<T> list, T item, int most) {
        if (list.size() == most) {
            return FULL;
        }
        list.add(item);
        return list.size() - 1;
    }

    int kind(int parent) {
        if (!in(parent, kinds)) {
            return BAD;
        }
        Set<Integer> under = new HashSet<>(kinds.get(parent));
        under.add(kinds.size());
        return append(kinds, under, 20);
    }

    int under(int kind, int other) {
        return !in(kind, kinds) || !in(other, kinds) ? BAD : kinds.get(kind).contains(other) ? 1 : 0;
    }

    int subject(int kind) {
        if (!in(kind, kinds)) {
            return BAD;
        }
        int number = append(subjectKinds, kind, 20);
        if (number != FULL) {
            values.add(new int[4]);
        }
        return number;
    }

    int set(int subject, int x, int v) {
        int was = value(subject, x);
        if (in(subject, values) && in(x, 0, 3)) {
            values.get(subject)[x] = v;
        }
        return was;
    }

    int value(int subject, int x) {
        return in(subject, values) && in(x, 0, 3) ? values.get(subject)[x] : BAD;
    }

    int book(int otherwise) {
        if (!in(otherwise, 0, 99)) {
            return BAD;
        }
        int number = append(defaults, otherwise, 12);
        if (number != FULL) {
            firsts.add(new int[4]);
        }
        return number;
    }

    int variable(int book, int x, int v) {
        if (!in(book, defaults) || !in(x, 0, 3)) {
            return BAD;
        }
        firsts.get(book)[x] = v;
        return 0;
    }

    int rule(int book, int section, int special) {
        if (!in(book, defaults) || !in(section, 0, 2) || !in(special, 0, 9)) {
            return BAD;
        }
        RuleNotes notes = new RuleNotes();
        notes.book = book;
        notes.section = section;
        notes.special = special;
        return append(rules, notes, 60);
    }

    /** The book of a rule, for a test that wants to know; BAD: none such. */
    int bookOf(int rule) {
        return in(rule, rules) ? rules.get(rule).book : BAD;
    }

    int condition(int rule, int code, int x, int y) {
        if (!in(rule, rules) || !in(code, 0, 6) && !in(code, 10, 16)) {
            return BAD;
        }
        RuleNotes notes = rules.get(rule);
        int plain = code % 10;
        boolean fine = plain == 0 ? in(x, kinds)
                : plain == 5 ? in(x, again)
                : plain == 6 ? in(x, rules) && rules.get(x).book == notes.book
                : in(x, 0, 3);
        if (!fine) {
            return BAD;
        }
        int place = append(notes.conditions, new Told(code, x, y), 4);
        return place == FULL ? FULL : place + 1;
    }

    int does(int rule, int code, int x, int y) {
        if (!in(rule, rules) || !in(code, 0, 8)) {
            return BAD;
        }
        boolean fineX = code == 0 || code == 7
                || (code == 1 ? in(x, 1, 99) : code == 5 || code == 6 ? in(x, defaults) : in(x, 0, 3));
        boolean fineY = code != 4 && code != 8 || in(y, 0, 3);
        if (!fineX || !fineY) {
            return BAD;
        }
        rules.get(rule).deed = new Told(code, x, y);
        return 0;
    }

    int order(int rule, int how, int other) {
        if (!in(rule, rules) || !in(how, 0, 5)) {
            return BAD;
        }
        if (in(how, 2, 4)) {
            if (!in(other, rules) || other == rule || rules.get(other).book != rules.get(rule).book) {
                return BAD;
            }
        }
        orders.remove(rule);
        orders.put(rule, new int[] {how, other});
        return 0;
    }

    private int deepSum(int rule) {
        return rules.get(rule).conditions.stream().filter(told -> told.code() == 0)
                .mapToInt(told -> kinds.get(told.x()).size() - 1).sum();
    }

    private List<Integer> rowOf(int book) {
        Comparator<Integer> rank = Comparator.comparingInt((Integer rule) -> rules.get(rule).section)
                .thenComparingInt(rule -> -rules.get(rule).special)
                .thenComparingInt(rule -> -rules.get(rule).conditions.size())
                .thenComparingInt(rule -> -deepSum(rule))
                .thenComparingInt(rule -> rule);
        List<Integer> row = IntStream.range(0, rules.size()).boxed()
                .filter(rule -> rules.get(rule).book == book).sorted(rank)
                .collect(Collectors.toCollection(ArrayList::new));
        for (Map.Entry<Integer, int[]> entry : orders.entrySet()) {
            Integer rule = entry.getKey();
            int how = entry.getValue()[0];
            Integer other = entry.getValue()[1];
            if (!row.contains(rule) || in(how, 2, 4) && !row.contains(other)) {
                continue;
            }
            row.remove(rule);
            if (how == 0) {
                row.add(0, rule);
            } else if (how == 1) {
                row.add(rule);
            } else if (how != 5) {
                row.add(row.indexOf(other) + (how == 3 ? 1 : 0), rule);
            }
            if (how == 4) {
                row.remove(other);
            }
        }
        return row;
    }

    int row(int book, int i) {
        if (!in(book, defaults)) {
            return BAD;
        }
        List<Integer> row = rowOf(book);
        return in(i, row) ? row.get(i) : NONE;
    }

    /** The outcome, or null without one. */
    private Integer runBook(int book, int subject, int depth) {
        int[] variables = firsts.get(book).clone();
        int[] own = values.get(subject);
        Set<Integer> applied = new HashSet<>();
        for (int rule : rowOf(book)) {
            if (trace.size() == 300) {
                throw new Err(rule, 3);
            }
            boolean applies = rules.get(rule).conditions.stream()
                    .allMatch(told -> isSo(told, subject, variables, applied) == told.code() < 10);
            trace.add(new int[] {rule, applies ? 1 : 0, depth});
            if (!applies) {
                continue;
            }
            applied.add(rule);
            Told deed = rules.get(rule).deed;
            if (deed.code() == 1) {
                return deed.x();
            } else if (deed.code() == 2) {
                variables[deed.x()] += deed.y();
            } else if (deed.code() == 3) {
                own[deed.x()] = deed.y();
            } else if (deed.code() == 4) {
                if (variables[deed.y()] == 0) {
                    throw new Err(rule, 1);
                }
                own[deed.x()] = (int) ((long) own[deed.x()] / variables[deed.y()]);
            } else if (deed.code() == 5 || deed.code() == 6) {
                if (depth == 6) {
                    throw new Err(rule, 2);
                }
                Integer outcome = runBook(deed.x(), subject, depth + 1);
                if (deed.code() == 6 && outcome != null) {
                    return outcome;
                }
            } else if (deed.code() == 7) {
                return null;
            } else if (deed.code() == 8) {
                variables[deed.x()] = own[deed.y()];
            }
        }
        return null;
    }

    private boolean isSo(Told told, int subject, int[] variables, Set<Integer> applied) {
        int[] own = values.get(subject);
        List<BooleanSupplier> so = List.of(
                () -> kinds.get(subjectKinds.get(subject)).contains(told.x()),
                () -> own[told.x()] == told.y(),
                () -> own[told.x()] > told.y(),
                () -> variables[told.x()] == told.y(),
                () -> variables[told.x()] > told.y(),
                () -> happening.contains(told.x()),
                () -> applied.contains(told.x()));
        return so.get(told.code() % 10).getAsBoolean();
    }

    /** The runs of one call; -1 as the stage's answer means that it goes on. */
    private int call(int[] books, int subject, boolean stages) {
        boolean first = true;
        int answer = 0;
        for (int stage = 0; stage < books.length; stage++) {
            if (books[stage] == NONE) {
                continue;
            }
            if (first) {
                trace = new ArrayList<>();
                erred = 0;
                first = false;
            }
            Integer outcome;
            try {
                outcome = runBook(books[stage], subject, 1);
            } catch (Err err) {
                erred = err.code;
                return -10 - err.rule;
            }
            if (stages && outcome != null && stage != 3 && stage != 5) {
                return 100 * (stage + 1) + outcome;
            }
            if (!stages) {
                answer = outcome != null ? outcome : defaults.get(books[stage]);
            }
        }
        return answer;
    }

    int run(int book, int subject) {
        return in(book, defaults) && in(subject, values) ? call(new int[] {book}, subject, false) : BAD;
    }

    int trace(int i, int what) {
        return in(i, trace) && in(what, 0, 2) ? trace.get(i)[what] : NONE;
    }

    int erred() {
        return erred;
    }

    private boolean areBooks(int... books) {
        return Arrays.stream(books).allMatch(book -> book == NONE || in(book, defaults));
    }

    int action(int before, int instead, int check, int carry, int after, int report) {
        int[] books = {before, instead, check, carry, after, report};
        return areBooks(books) ? append(actions, books, 8) : BAD;
    }

    int act(int action, int subject) {
        return in(action, actions) && in(subject, values) ? call(actions.get(action), subject, true) : BAD;
    }

    int activity(int before, int middle, int after) {
        int[] books = {before, middle, after};
        return areBooks(books) ? append(activities, books, 6) : BAD;
    }

    int begin(int activity, int subject) {
        if (!in(activity, activities) || !in(subject, values)) {
            return BAD;
        }
        if (open.size() == 4) {
            return FULL;
        }
        open.push(new int[] {activity, subject});
        int answer = part(0);
        if (answer < 0) {
            open.pop();
        }
        return answer;
    }

    private int part(int part) {
        if (open.isEmpty()) {
            return NO;
        }
        int[] latest = open.peek();
        return call(new int[] {activities.get(latest[0])[part]}, latest[1], false);
    }

    int middle() {
        return part(1);
    }

    int finish() {
        int answer = part(2);
        open.poll();
        return answer;
    }

    int abandon() {
        return open.isEmpty() ? NO : open.pop()[0];
    }

    int scene(int mayAgain) {
        return in(mayAgain, 0, 1) ? append(again, mayAgain == 1, 8) : BAD;
    }

    int anchor(int scene, int side, int code, int x) {
        boolean fine = in(scene, again) && in(side, 0, 1) && in(code, 0, 4)
                && (code != 1 || x >= 0)
                && (code != 2 && code != 3 || in(x, again))
                && (code != 4 || x >= 0 && in(x / 4, values));
        if (!fine) {
            return BAD;
        }
        Map<Integer, int[]> would = new HashMap<>(anchors);
        would.put(2 * scene + side, new int[] {code, x});
        for (int start = 0; start < 16; start++) {
            if (leadsBack(would, start)) {
                return NO;
            }
        }
        anchors.put(2 * scene + side, new int[] {code, x});
        return 0;
    }

    private static boolean leadsBack(Map<Integer, int[]> would, int start) {
        Set<Integer> seen = new HashSet<>();
        int at = start;
        while (seen.add(at)) {
            int[] anchor = would.getOrDefault(at, new int[2]);
            if (anchor[0] != 2 && anchor[0] != 3) {
                return false;
            }
            at = 2 * anchor[1] + anchor[0] - 2;
        }
        return true;
    }

    int everyTurn(int book) {
        if (!areBooks(book)) {
            return BAD;
        }
        turnBook = book;
        return 0;
    }

    int turn() {
        clock++;
        events = new ArrayList<>();
        boolean changed = true;
        while (changed) {
            changed = false;
            for (int scene = 0; scene < again.size(); scene++) {
                changed |= happening.contains(scene) ? ends(scene) : begins(scene);
            }
        }
        int answer = turnBook == NONE || values.isEmpty() ? 0 : call(new int[] {turnBook}, 0, false);
        return answer <= -10 ? answer : events.size();
    }

    private boolean ends(int scene) {
        if (!happensNow(2 * scene + 1)) {
            return false;
        }
        happening.remove(scene);
        return true;
    }

    private boolean begins(int scene) {
        if (began.containsKey(scene) && !again.get(scene) || !happensNow(2 * scene)) {
            return false;
        }
        happening.add(scene);
        began.merge(scene, 1, Integer::sum);
        return true;
    }

    private boolean happensNow(int event) {
        int[] anchor = anchors.getOrDefault(event, new int[2]);
        int x = anchor[1];
        boolean met = anchor[0] == 1 && clock >= x
                || anchor[0] == 2 && events.contains(2 * x)
                || anchor[0] == 3 && events.contains(2 * x + 1)
                || anchor[0] == 4 && values.get(x / 4)[x % 4] > 0;
        return met && !events.contains(event) && events.add(event);
    }

    int event(int i) {
        return in(i, events) ? events.get(i) : NONE;
    }

    int happens(int scene, int what) {
        if (!in(scene, again) || !in(what, 0, 1)) {
            return BAD;
        }
        return what == 1 ? began.getOrDefault(scene, 0) : happening.contains(scene) ? 1 : 0;
    }

    int phrase(int name, int first, int second) {
        if (!in(name, 0, 9) || !in(first, kinds) || !in(second, kinds)) {
            return BAD;
        }
        int[] phrase = {name, first, second};
        if (phrases.stream().anyMatch(told -> Arrays.equals(told, phrase))) {
            return NO;
        }
        return append(phrases, phrase, 40);
    }

    int choose(int name, int first, int second) {
        if (!in(name, 0, 9) || !in(first, values) || !in(second, values)) {
            return BAD;
        }
        int[] asked = {name, subjectKinds.get(first), subjectKinds.get(second)};
        List<int[]> meant = phrases.stream().filter(told -> isUnder(asked, told)).toList();
        if (meant.isEmpty()) {
            return NONE;
        }
        return meant.stream().filter(one -> meant.stream().allMatch(other -> isUnder(one, other)))
                .map(phrases::indexOf).findFirst().orElse(TWO);
    }

    private boolean isUnder(int[] one, int[] other) {
        return one[0] == other[0] && kinds.get(one[1]).contains(other[1]) && kinds.get(one[2]).contains(other[2]);
    }

    int count(int what) {
        int[] counts = {kinds.size(), values.size(), defaults.size(), rules.size(), actions.size(),
            activities.size(), open.size(), again.size(), phrases.size(), trace.size(), clock};
        return in(what, 0, 10) ? counts[what] : BAD;
    }
}
