import java.nio.charset.StandardCharsets;
import java.util.concurrent.Callable;

/** What the tests share: counting wrong answers, and feeding texts to a caravan. */
final class Check {
    private static int wrong = 0;
    private static int asked = 0;
    private static String about = "";

    private Check() {
    }

    /** What is wrong from now on is told together with this. */
    static void about(String what) {
        about = what.isEmpty() ? "" : "[" + what + "] ";
    }

    static int asked() {
        return asked;
    }

    static void same(String call, Object got, Object due) {
        asked++;
        if (!got.equals(due)) {
            wrong++;
            System.out.println(about + call + " answered " + shown(got, due) + ", due is " + shown(due, got));
        }
    }

    /** Of a long text only the first line that the other one has not. */
    private static String shown(Object text, Object other) {
        String[] lines = text.toString().split("\n");
        String[] others = other.toString().split("\n");
        if (lines.length < 12) {
            return text.toString();
        }
        for (int i = 0; i < lines.length; i++) {
            if (i >= others.length || !lines[i].equals(others[i])) {
                return "'" + lines[i] + "' in line " + (i + 1);
            }
        }
        return "no more than " + lines.length + " lines";
    }

    /** The call must throw this very class of exception. */
    static void raises(String call, Class<? extends Exception> due, Callable<?> body) {
        asked++;
        String got;
        try {
            got = "answered " + body.call();
        } catch (Exception e) {
            if (e.getClass() == due) {
                return;
            }
            got = "threw " + e.getClass().getName();
        }
        wrong++;
        System.out.println(about + call + " " + got + ", due is " + due.getName());
    }

    static void noSuch(String call, Callable<?> body) {
        raises(call, java.util.NoSuchElementException.class, body);
    }

    static void outOfBounds(String call, Callable<?> body) {
        raises(call, IndexOutOfBoundsException.class, body);
    }

    static void badState(String call, Callable<?> body) {
        raises(call, IllegalStateException.class, body);
    }

    static void badArgument(String call, Callable<?> body) {
        raises(call, IllegalArgumentException.class, body);
    }

    static void end() {
        System.out.println(wrong + " of " + asked + " answers are wrong");
        if (wrong != 0 || asked == 0) {
            System.exit(1);
        }
    }

    static CaravanRoute loaded(String text) {
        CaravanRoute route = new CaravanRoute();
        feed(route, text);
        route.load();
        return route;
    }

    /** Appends the text; what fills the last 20 bytes is cut off where the buffer leaves room for it. */
    static void feed(CaravanRoute route, String text) {
        feed(route, text.getBytes(StandardCharsets.ISO_8859_1));
    }

    static void feed(CaravanRoute route, byte[] text) {
        for (int i = 0; i < text.length; i += 20) {
            int length = route.append(four(text, i), four(text, i + 4), four(text, i + 8),
                four(text, i + 12), four(text, i + 16));
            if (i + 20 > text.length) {
                route.shorten(length - (i + 20 - text.length));
            }
        }
    }

    private static int four(byte[] text, int from) {
        int sum = 0;
        for (int i = from; i < from + 4; i++) {
            sum = sum << 8 | (i < text.length ? text[i] & 0xff : 0);
        }
        return sum;
    }

    static String written(CaravanRoute route) {
        int length = route.writeCamels();
        return writtenAgain(route, length);
    }

    static String writtenAgain(CaravanRoute route, int length) {
        StringBuilder text = new StringBuilder();
        for (int i = 0; i < length; i++) {
            text.append((char) route.writtenByte(i));
        }
        return text.toString();
    }
}
