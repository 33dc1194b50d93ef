import java.util.NoSuchElementException;
import java.util.function.Supplier;

/** What the tests of the edges share. */
abstract class Edge {
    static final String ROUTE = Made.ROUTE;
    static final String CAMEL = Made.CAMEL;
    static final Class<? extends Exception> STATE = IllegalStateException.class;
    static final Class<? extends Exception> ARGUMENT = IllegalArgumentException.class;
    static final Class<? extends Exception> INDEX = IndexOutOfBoundsException.class;
    static final Class<? extends Exception> NO_SUCH = NoSuchElementException.class;

    interface Question {
        Object of(CaravanRoute x, int number);
    }

    static void term(int number, String words, Runnable test) {
        Sentence.holds("term " + number, words, test);
    }

    static void promise(int number, String words, Runnable test) {
        Sentence.holds("promise " + number, words, test);
    }

    static void same(String call, Object got, Object due) {
        Check.same(call, got, due);
    }

    static CaravanRoute loaded(String text) {
        return Check.loaded(text);
    }

    static void rest(CaravanRoute x, int days) {
        Made.rest(x, days);
    }

    static void travel(CaravanRoute x, int days) {
        Made.travel(x, days);
    }

    /** The call throws this exception, and nothing is different afterwards. */
    static void refused(String call, Class<? extends Exception> due, Supplier<CaravanRoute> make, Twins.Ask ask) {
        CaravanRoute x = make.get();
        Check.raises(call, due, () -> ask.of(x));
        Twins.areAlike(call, make, ask);
    }

    /** Each of the numbers is refused, and so are the farthest ones. */
    static void refusedNumbers(String call, Class<? extends Exception> due, Supplier<CaravanRoute> make,
            Question question, int... numbers) {
        for (int number : numbers) {
            refused(call + "(" + number + ")", due, make, x -> question.of(x, number));
        }
        refused(call + "(MIN)", due, make, x -> question.of(x, Integer.MIN_VALUE));
        refused(call + "(MAX)", due, make, x -> question.of(x, Integer.MAX_VALUE));
    }

    /** The text has its first error here, and the caravan stays as it was. */
    static void wrong(String text, int offset) {
        CaravanRoute x = new CaravanRoute();
        String before = Whole.caravan(x);
        Check.feed(x, text);
        String shown = text.length() > 90 ? text.substring(0, 60) + ".." + text.substring(text.length() - 25) : text;
        Check.raises("load of '" + shown + "'", ARGUMENT, () -> x.load());
        same("error of '" + shown + "'", Whole.error(x), "true " + offset);
        same("the caravan after '" + shown + "'", Whole.caravan(x), before);
    }
}
