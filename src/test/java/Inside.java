import java.lang.reflect.Array;
import java.lang.reflect.Field;
import java.lang.reflect.Modifier;
import java.util.IdentityHashMap;
import java.util.List;
import java.util.Map;

/**
 * All that an object holds, as text, whatever its fields are: two texts that are alike say that
 * nothing was changed in between, also where no call would show it soon.
 */
final class Inside {
    private final Map<Object, Integer> seen = new IdentityHashMap<>();
    private final StringBuilder text = new StringBuilder();

    private Inside() {
    }

    static String of(Object whose) {
        Inside inside = new Inside();
        inside.tell(whose);
        return inside.text.toString();
    }

    private void tell(Object item) {
        if (item == null || item instanceof Number || item instanceof Boolean || item instanceof String) {
            text.append(item).append(' ');
            return;
        }
        Integer before = seen.putIfAbsent(item, seen.size());
        if (before != null) {
            text.append('@').append(before).append(' ');
            return;
        }
        text.append('[');
        if (item.getClass().isArray()) {
            for (int i = 0; i < Array.getLength(item); i++) {
                tell(Array.get(item, i));
            }
        } else if (item instanceof List<?> list) {
            list.forEach(this::tell);
        } else {
            tellFields(item);
        }
        text.append(']');
    }

    private void tellFields(Object item) {
        for (Field field : item.getClass().getDeclaredFields()) {
            if (Modifier.isStatic(field.getModifiers())) {
                continue;
            }
            text.append(field.getName()).append(' ');
            field.setAccessible(true);
            try {
                tell(field.get(item));
            } catch (IllegalAccessException refused) {
                throw new IllegalStateException(refused);
            }
        }
    }
}
