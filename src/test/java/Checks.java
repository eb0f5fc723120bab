import java.nio.ByteBuffer;
import java.nio.charset.StandardCharsets;
import java.util.Arrays;
import java.util.Collections;
import java.util.NoSuchElementException;
import java.util.function.BooleanSupplier;
import java.util.function.IntConsumer;
import java.util.function.IntSupplier;

/**
 * What the tests share: checks that are counted, and texts on the tape. No test uses an object for more than 512 calls,
 * since what later ones answer is free; so many are made anew by a recipe.
 */
class Checks {
    static final Class<?> INDEX = IndexOutOfBoundsException.class;
    static final Class<?> ARGUMENT = IllegalArgumentException.class;
    static final Class<?> STATE = IllegalStateException.class;
    static final Class<?> ELEMENT = NoSuchElementException.class;
    static final Class<?> UNSUPPORTED = UnsupportedOperationException.class;

    static final int LOG_ROWS = 60;

    static int checks = 0;
    static int wrong = 0;
    static int promise = 0;
    /** The words of the document that are tested, or none. */
    static String words = "";

    /** What the document says next, so that a check that fails can name it. */
    static void says(String sentence) { words = ", \"" + sentence + "\""; }

    private static void tellWrong(String what) {
        wrong++;
        System.out.println((promise == 0 ? "terms" : "promise " + promise) + words + ": " + what);
    }

    static void is(String what, int got, int want) {
        checks++;
        if (got != want) tellWrong(what + " answered " + got + ", due is " + want);
    }

    static void is(String what, boolean got, boolean want) { is(what, got ? 1 : 0, want ? 1 : 0); }

    static void is(String what, String got, String want) {
        checks++;
        if (!got.equals(want)) tellWrong(what + " answered " + got + ", due is " + want);
    }

    /** How a call ends: with what it throws, or null. */
    static Class<?> thrown(Runnable call) {
        try {
            call.run();
        } catch (RuntimeException e) {
            return e.getClass();
        }
        return null;
    }

    static void fails(String what, Class<?> how, Runnable call) {
        checks++;
        Class<?> got = thrown(call);
        if (got != how) tellWrong(what + " threw " + got + ", due is " + how);
    }

    static void index(String what, IntSupplier call) { fails(what, INDEX, call::getAsInt); }
    static void argument(String what, IntSupplier call) { fails(what, ARGUMENT, call::getAsInt); }
    static void indexOf(String what, BooleanSupplier call) { fails(what, INDEX, call::getAsBoolean); }

    /** The call takes least and most, and nothing beyond them. */
    static void bounded(String what, int least, int most, Class<?> how, IntConsumer call) {
        if (least <= most) {
            fails(what + " of " + least, null, () -> call.accept(least));
            fails(what + " of " + most, null, () -> call.accept(most));
        }
        for (int n : new int[] {Integer.MIN_VALUE, least - 1, most + 1, Integer.MAX_VALUE}) {
            fails(what + " of " + n, how, () -> call.accept(n));
        }
    }

    static void tell(FourHands x, String text) {
        x.end(0);
        byte[] b = Arrays.copyOf(text.getBytes(StandardCharsets.ISO_8859_1), (text.length() + 19) / 20 * 20);
        ByteBuffer all = ByteBuffer.wrap(b);
        while (all.hasRemaining()) x.feed(all.getInt(), all.getInt(), all.getInt(), all.getInt(), all.getInt());
        x.end(text.length());
    }

    static void tellBytes(FourHands x, int... bytes) {
        StringBuilder s = new StringBuilder();
        for (int b : bytes) s.append((char) b);
        tell(x, s.toString());
    }

    static FourHands piece(String... texts) {
        FourHands x = new FourHands();
        for (String t : texts) add(x, t);
        return x;
    }

    static int add(FourHands x, String text) { tell(x, text); return x.piece(); }
    static int rule(FourHands x, String text) { tell(x, text); return x.law(); }

    static void wrongPiece(FourHands x, String text, int place) {
        fails("piece \"" + text + "\"", ARGUMENT, () -> add(x, text));
        is("fault() of \"" + text + "\"", x.fault(), place);
    }

    static void wrongLaw(FourHands x, String text, int place) {
        fails("law \"" + text + "\"", ARGUMENT, () -> rule(x, text));
        is("fault() of \"" + text + "\"", x.fault(), place);
    }

    static String lines(String line, int times) { return String.join(";", Collections.nCopies(times, line)); }

    /** All that can be seen plainly of an object, its seed too; the tape, the law and the image stay unseen. */
    static String look(FourHands x) {
        StringBuilder s = new StringBuilder();
        for (int what = 0; what < 14; what++) s.append(x.count(what)).append(' ');
        for (int hand = 0; hand < x.count(0); hand++) {
            for (int what = 0; what < 6; what++) s.append(x.hand(hand, what)).append(what < 5 ? ',' : ' ');
        }
        for (int note = 0; note < x.count(1); note++) {
            for (int what = 0; what < 5; what++) s.append(x.note(note, what)).append(what < 4 ? ',' : ' ');
        }
        int rows = Math.min(LOG_ROWS, x.count(12));
        for (int ago = 0; ago <= rows; ago++) {
            for (int what = 0; what < 4; what++) s.append(x.log(ago, what)).append(what < 3 ? ',' : ' ');
        }
        int seed = x.seed(0);
        x.seed(seed);
        return s.append(seed).append(' ').append(x.fault()).toString();
    }

    static void report(String name) {
        System.out.println(name + ": " + (checks - wrong) + " of " + checks + " checks hold");
        if (wrong > 0) System.exit(1);
    }
}
