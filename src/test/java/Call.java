import java.lang.reflect.InvocationTargetException;
import java.lang.reflect.Method;
import java.lang.reflect.Modifier;
import java.util.ArrayList;
import java.util.Arrays;
import java.util.List;
import java.util.Map;
import java.util.TreeMap;

/** One call of the face, by its name and its numbers, of the class or of the second program. */
record Call(String name, long... numbers) {
    private static final Map<String, Method> OF_THE_CLASS = methods(DownTheMiddle.class);
    private static final Map<String, Method> OF_THE_PAPER = methods(Paper.class);

    private static Map<String, Method> methods(Class<?> type) {
        Map<String, Method> all = new TreeMap<>();
        for (Method method : type.getDeclaredMethods()) {
            if (Modifier.isPublic(method.getModifiers())) {
                all.put(method.getName(), method);
            }
        }
        return all;
    }

    static List<String> names() {
        return new ArrayList<>(OF_THE_CLASS.keySet());
    }

    /** Lines as "paint 0 1 7", and "letters 2 0 left 0;left 0" for a row of letters. */
    static List<Call> script(String... lines) {
        List<Call> calls = new ArrayList<>();
        for (String line : lines) {
            String[] words = line.split(" ", 4);
            if (words[0].equals("letters")) {
                calls.addAll(letters(Long.parseLong(words[1]), Long.parseLong(words[2]), words[3]));
            } else {
                calls.add(new Call(words[0], Arrays.stream(line.split(" ")).skip(1).mapToLong(Long::parseLong).toArray()));
            }
        }
        return calls;
    }

    static List<Call> letters(long s, long sort, String text) {
        List<Call> calls = new ArrayList<>();
        calls.add(new Call("row", s, sort, text.length()));
        for (int i = 0; i < text.length(); i++) {
            calls.add(new Call("set", s, i, text.charAt(i)));
        }
        return calls;
    }

    long of(DownTheMiddle x) {
        return answer(OF_THE_CLASS.get(name), x);
    }

    long of(Paper x) {
        return answer(OF_THE_PAPER.get(name), x);
    }

    private long answer(Method method, Object x) {
        Object[] boxed = new Object[numbers.length];
        for (int i = 0; i < boxed.length; i++) {
            boxed[i] = method.getParameterTypes()[i] == long.class ? (Object) numbers[i] : (Object) (int) numbers[i];
        }
        try {
            return ((Number) method.invoke(x, boxed)).longValue();
        } catch (InvocationTargetException e) {
            throw new IllegalStateException(this + " threw " + e.getCause(), e.getCause());
        } catch (IllegalAccessException e) {
            throw new IllegalStateException(e);
        }
    }

    @Override
    public String toString() {
        return name + Arrays.toString(numbers).replace('[', '(').replace(']', ')');
    }
}
