import java.lang.reflect.InvocationTargetException;
import java.lang.reflect.Method;
import java.util.HashMap;
import java.util.Map;

/**
 * Calls of one new object, written as words: the name of a method and its numbers, "lease 0 0 5".
 * "type" feeds the bytes behind it, "text" feeds them and calls script(). An object takes no more
 * than the 512 calls of which the document speaks.
 */
final class Calls {
    private static final int MOST = 512;
    private static final Map<String, Method> FACE = new HashMap<>();

    static {
        for (Method method : LeaseOffice.class.getMethods()) {
            if (method.getDeclaringClass() == LeaseOffice.class) {
                FACE.put(method.getName(), method);
            }
        }
    }

    private final LeaseOffice x;
    private int made = 0;

    Calls() {
        this(new LeaseOffice());
    }

    Calls(LeaseOffice x) {
        this.x = x;
    }

    /** Makes calls that lead up to something: those with a ! ahead are refused, the others not. */
    void make(String what, String calls) {
        if (calls.isEmpty()) {
            return;
        }
        for (String each : calls.split(" \\| ")) {
            boolean refused = each.startsWith("!");
            int answer = ask(refused ? each.substring(1) : each);
            if (refused != answer < 0) {
                Due.is(what + ": " + each + ", which leads up to it,", answer, refused ? -1 : 0);
            }
        }
    }

    int ask(String call) {
        if (call.startsWith("type ") || call.startsWith("text ")) {
            int bytes = 0;
            for (char letter : call.substring(5).toCharArray()) {
                bytes = ask("feed", letter);
            }
            return call.startsWith("text ") ? ask("script") : bytes;
        }
        String[] words = call.split(" ");
        int[] numbers = new int[words.length - 1];
        for (int i = 0; i < numbers.length; i++) {
            numbers[i] = Integer.parseInt(words[i + 1]);
        }
        return ask(words[0], numbers);
    }

    int ask(String method, int... numbers) {
        made++;
        if (made > MOST) {
            throw new IllegalStateException("call " + made + " of an object, " + method);
        }
        Method called = FACE.get(method);
        Object[] boxed = new Object[numbers.length];
        for (int i = 0; i < numbers.length; i++) {
            boxed[i] = numbers[i];
        }
        try {
            return (int) called.invoke(x, boxed);
        } catch (IllegalAccessException | InvocationTargetException e) {
            throw new IllegalStateException(method + " threw", e);
        }
    }
}
