import java.lang.reflect.Array;
import java.lang.reflect.Field;
import java.lang.reflect.Modifier;
import java.util.IdentityHashMap;
import java.util.List;
import java.util.Map;

/**
 * All that a street holds, as a text: every field of every object inside it. No series of calls
 * would do, as some of it is asked by no call (the distance by law), and asking has its limit.
 */
final class Picture {
    private final StringBuilder text = new StringBuilder();
    private final Map<Object, Integer> seen = new IdentityHashMap<>();

    private Picture() {
    }

    /** Counting orders leaves its working behind in a row; counting them once more makes that the same each time. */
    static String of(Hatpitch street) {
        street.orders();
        Picture picture = new Picture();
        picture.add(street);
        return picture.text.toString();
    }

    private void add(Object thing) {
        if (thing == null || thing instanceof Number || thing instanceof Boolean || thing instanceof Character) {
            text.append(thing).append(' ');
        } else if (seen.containsKey(thing)) {
            text.append('#').append(seen.get(thing)).append(' ');
        } else {
            seen.put(thing, seen.size());
            addParts(thing);
        }
    }

    private void addParts(Object thing) {
        text.append('(');
        if (thing instanceof List<?> list) {
            list.forEach(this::add);
        } else if (thing.getClass().isArray()) {
            for (int i = 0; i < Array.getLength(thing); i++) {
                add(Array.get(thing, i));
            }
        } else {
            addFields(thing);
        }
        text.append(')');
    }

    private void addFields(Object owner) {
        for (Field field : owner.getClass().getDeclaredFields()) {
            if (!Modifier.isStatic(field.getModifiers())) {
                text.append(field.getName()).append(' ');
                field.setAccessible(true);
                try {
                    add(field.get(owner));
                } catch (IllegalAccessException e) {
                    throw new IllegalStateException(e);
                }
            }
        }
    }
}
