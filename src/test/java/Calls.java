import java.lang.reflect.Method;
import java.lang.reflect.Modifier;
import java.util.Map;
import java.util.TreeMap;

/** Calls by their names, so that one list of calls can be asked of the program and of the Model. */
interface Calls {
    long ask(String name, int... args);

    static Calls of(UnlikeDrawn x) {
        return (name, args) -> Face.ask(x, name, args);
    }

    static Calls of(Model model) {
        return (name, args) -> model.call(name, args);
    }

    static String told(String name, int... args) {
        StringBuilder told = new StringBuilder(name + "(");
        for (int i = 0; i < args.length; i++) {
            told.append(i == 0 ? "" : ", ").append(args[i]);
        }
        return told.append(")").toString();
    }

    /** The HAND's text becomes this one. */
    default void write(int hand, String text) {
        ask("wipe", hand);
        for (int i = 0; i < text.length(); i++) {
            ask("type", hand, text.charAt(i));
        }
    }

    /** A SHEET of a FORM with these items. */
    default void fill(int s, int form, int... items) {
        ask("sheet", s, form, items.length);
        for (int i = 0; i < items.length; i++) {
            ask("lay", s, form, i, items[i]);
        }
    }

    /** A HEAD more, with these PLACES; the PARTS behind these stay at 50. */
    default void head(int... places) {
        int head = (int) ask("head");
        for (int part = 0; part < places.length; part++) {
            ask("place", head, part, places[part]);
        }
    }

    /** The methods of the face. */
    final class Face {
        private static final Map<String, Method> METHODS = methods();

        private Face() {
        }

        private static Map<String, Method> methods() {
            Map<String, Method> methods = new TreeMap<>();
            for (Method method : UnlikeDrawn.class.getDeclaredMethods()) {
                if (Modifier.isPublic(method.getModifiers())) {
                    methods.put(method.getName(), method);
                }
            }
            return methods;
        }

        static String[] names() {
            return METHODS.keySet().toArray(new String[0]);
        }

        static int arguments(String name) {
            return METHODS.get(name).getParameterCount();
        }

        static long ask(UnlikeDrawn x, String name, int... args) {
            Object[] boxed = new Object[args.length];
            for (int i = 0; i < args.length; i++) {
                boxed[i] = args[i];
            }
            try {
                return ((Number) METHODS.get(name).invoke(x, boxed)).longValue();
            } catch (ReflectiveOperationException thrown) {
                throw new IllegalStateException(told(name, args), thrown);
            }
        }
    }
}
