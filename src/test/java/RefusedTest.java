import java.util.function.Consumer;
import java.util.function.Supplier;

/**
 * Every call that is refused, and every call that only looks, leaves all as it was, but for the tape where it is used
 * up. Objects are made twice by one recipe, with the call and without it, and looked at from all sides; each side has
 * objects of its own, so that none is used for more than 512 calls.
 */
public final class RefusedTest extends Checks {
    public static void main(String[] args) {
        recipeIsRich();
        withoutHands();
        hands();
        notes();
        beats();
        players();
        numbers();
        whats();
        states();
        texts();
        rows();
        quietly();
        looks();
        report("RefusedTest");
    }

    // ---- recipes

    private static FourHands fresh() {
        FourHands x = new FourHands();
        tell(x, "slip 55");
        return x;
    }

    /** Six hands, fourteen notes, a law, a log of 60 rows, all counts above 0, an image, acts, a fault and a tape. */
    private static FourHands rich() {
        FourHands x = piece("hand of 0 at 10 reach 9 skill 9;hand of 1 at 20 reach 9 skill 9;hand of 2 at 30 reach 9 skill 9;"
            + "hand of 1 at 40 reach 9 skill 8;hand of 2 at 50 reach 9 skill 7;hand of 2 at 60 reach 3 skill 6;"
            + "note 8 at 0;note 9 at 0;note 21 at 0;note 33 at 1;note 40 at 1 hard 9",
            "note 60 at 1;note 8 at 2 hard 9;note 20 at 2 hard 9;note 21 at 3;note 40 at 4;note 50 at 5;note 60 at 6;note 8 at 11;note 63 at 11",
            "slip 40;page 17;beat 3");
        rule(x, "far 1 if low;near 1 if tired > 5;take if key < 40");
        x.seed(4711);
        for (int i = 0; i < 4; i++) x.turn(25);
        x.bind(5, true);
        x.strike(1, true);
        x.image();
        tell(x, "slip 1;hand");
        if (thrown(x::piece) != ARGUMENT) is("the recipe's wrong text", 0, 1);
        x.shift(10, 7);
        x.swap(0, 3);
        x.turn(3);
        x.put(2, 25);
        x.seed(-9);
        tell(x, "slip 55");
        return x;
    }

    /** Else a call could change what is 0 all the same. */
    private static void recipeIsRich() {
        FourHands x = rich();
        for (int what = 0; what < 14; what++) is("count(" + what + ") is above 0", x.count(what) > 0, true);
        is("rows", x.count(12), LOG_ROWS);
        is("acts", x.count(13), 10);
        is("fault", x.fault(), 7);
    }

    private static FourHands twelveTexts() {
        FourHands x = new FourHands();
        for (int i = 0; i < 12; i++) add(x, i == 0 ? "hand of 0 at 1 reach 1 skill 1;note 1 at 1" : "");
        x.put(0, 2);
        x.put(0, 3);
        tell(x, "slip 55");
        return x;
    }

    // ---- what can be seen of an object

    private static String lookAtTape(FourHands x) {
        int behind = x.feed(0, 0, 0, 0, 0);
        x.end(behind == -1 ? 400 : behind - 20);
        Class<?> how = thrown(x::piece);
        return behind + " " + how + " " + x.count(2) + " " + x.count(6) + " " + x.fault();
    }

    private static String lookBehindUndo(FourHands x, int times) {
        for (int i = 0; i < times; i++) x.undo();
        return look(x);
    }

    private static String lookBehindBack(FourHands x) { return x.back() + " " + look(x); }

    private static String lookAtLaw(FourHands x) {
        StringBuilder s = new StringBuilder();
        for (int hand = 0; hand < x.count(0); hand++) for (int note = 0; note < x.count(1); note++) s.append(x.reaches(hand, note)).append(' ');
        return s.toString();
    }

    /** With the call and without it all is the same; where the call uses the tape up, it is cut off without it. */
    private static void same(String what, Supplier<FourHands> recipe, Consumer<FourHands> call, boolean usesTape) {
        Supplier<FourHands> with = () -> {
            FourHands x = recipe.get();
            thrown(() -> call.accept(x));
            return x;
        };
        Supplier<FourHands> without = () -> {
            FourHands x = recipe.get();
            if (usesTape) x.end(0);
            return x;
        };
        is("all behind " + what, look(with.get()), look(without.get()));
        is("the tape behind " + what, lookAtTape(with.get()), lookAtTape(without.get()));
        is("the law behind " + what, lookAtLaw(with.get()), lookAtLaw(without.get()));
        is("the image behind " + what, lookBehindBack(with.get()), lookBehindBack(without.get()));
        int acts = without.get().count(13);
        for (int times = 1; times <= acts; times++) {
            is(times + " times undone behind " + what, lookBehindUndo(with.get(), times), lookBehindUndo(without.get(), times));
        }
    }

    private static void refused(String what, Class<?> how, Supplier<FourHands> recipe, Consumer<FourHands> call) {
        FourHands x = recipe.get();
        fails(what, how, () -> call.accept(x));
        same(what, recipe, call, false);
    }

    private static void refused(String what, Class<?> how, Consumer<FourHands> call) { refused(what, how, RefusedTest::rich, call); }

    // ---- calls that are refused

    private static void withoutHands() {
        says("IndexOutOfBoundsException: there is no such HAND, NOTE");
        Supplier<FourHands> none = RefusedTest::fresh;
        refused("hand(0, 0) of none", INDEX, none, x -> x.hand(0, 0));
        refused("note(0, 0) of none", INDEX, none, x -> x.note(0, 0));
        refused("can(0, 0) of none", INDEX, none, x -> x.can(0, 0));
        refused("reaches(0, 0) of none", INDEX, none, x -> x.reaches(0, 0));
        refused("put(0, 0) of none", INDEX, none, x -> x.put(0, 0));
        refused("rest(0) of none", INDEX, none, x -> x.rest(0));
        refused("bind(0, true) of none", INDEX, none, x -> x.bind(0, true));
        refused("strike(0, true) of none", INDEX, none, x -> x.strike(0, true));
        refused("shift(0, 1) of none", INDEX, none, x -> x.shift(0, 1));
        refused("swap(0, 1) of none", INDEX, none, x -> x.swap(0, 1));
        refused("holds(0, 0) of none", INDEX, none, x -> x.holds(0, 0));
        refused("better(0) of none", INDEX, none, x -> x.better(0));
        refused("sure(0, 1, 0) of none", INDEX, none, x -> x.sure(0, 1, 0));
        refused("rests(0) of none", INDEX, none, x -> x.rests(0));
        refused("ahead(0, 0, 0) of none", INDEX, none, x -> x.ahead(0, 0, 0));
        refused("led(0, true) of none", INDEX, none, x -> x.led(0, true));
    }

    private static void hands() {
        says("IndexOutOfBoundsException: there is no such HAND");
        for (int n : new int[] {-1, 6}) {
            refused("hand(" + n + ", 0)", INDEX, x -> x.hand(n, 0));
            refused("hand(" + n + ", 8)", INDEX, x -> x.hand(n, 8));
            refused("can(" + n + ", 0)", INDEX, x -> x.can(n, 0));
            refused("reaches(" + n + ", 0)", INDEX, x -> x.reaches(n, 0));
            refused("put(" + n + ", 0)", INDEX, x -> x.put(n, 0));
            refused("rest(" + n + ")", INDEX, x -> x.rest(n));
            refused("bind(" + n + ", true)", INDEX, x -> x.bind(n, true));
            refused("swap(" + n + ", 0)", INDEX, x -> x.swap(n, 0));
            refused("swap(0, " + n + ")", INDEX, x -> x.swap(0, n));
            refused("swap(" + n + ", " + n + ")", INDEX, x -> x.swap(n, n));
            refused("holds(0, " + n + ")", INDEX, x -> x.holds(0, n));
            refused("sure(" + n + ", 0, 0)", INDEX, x -> x.sure(n, 0, 0));
            refused("sure(0, " + n + ", 0)", INDEX, x -> x.sure(0, n, 0));
            refused("rests(" + n + ")", INDEX, x -> x.rests(n));
            refused("ahead(" + n + ", 0, 0)", INDEX, x -> x.ahead(n, 0, 0));
        }
        says("IndexOutOfBoundsException: there is no such KEY");
        refused("put(0, 64)", INDEX, x -> x.put(0, 64));
        refused("put(0, -1)", INDEX, x -> x.put(0, -1));
    }

    private static void notes() {
        says("IndexOutOfBoundsException: there is no such NOTE");
        for (int n : new int[] {-1, 14}) {
            refused("note(" + n + ", 0)", INDEX, x -> x.note(n, 0));
            refused("can(0, " + n + ")", INDEX, x -> x.can(0, n));
            refused("reaches(0, " + n + ")", INDEX, x -> x.reaches(0, n));
            refused("strike(" + n + ", true)", INDEX, x -> x.strike(n, true));
            refused("strike(" + n + ", false)", INDEX, x -> x.strike(n, false));
            refused("shift(" + n + ", 0)", INDEX, x -> x.shift(n, 0));
            refused("better(" + n + ")", INDEX, x -> x.better(n));
            refused("led(" + n + ", false)", INDEX, x -> x.led(n, false));
        }
    }

    private static void beats() {
        says("IndexOutOfBoundsException: there is no such BEAT");
        for (int n : new int[] {-1, 12}) {
            refused("shift(0, " + n + ")", INDEX, x -> x.shift(0, n));
            refused("of(" + n + ")", INDEX, x -> x.of(n));
            refused("holds(" + n + ", 0)", INDEX, x -> x.holds(n, 0));
            refused("left(" + n + ")", INDEX, x -> x.left(n));
            refused("go(" + n + ")", INDEX, x -> x.go(n));
            refused("third(" + n + ")", INDEX, x -> x.third(n));
            refused("hands(" + n + ", 41)", INDEX, x -> x.hands(n, 41));
            refused("tune(" + n + ", true)", INDEX, x -> x.tune(n, true));
            refused("sure(0, 0, " + n + ")", INDEX, x -> x.sure(0, 0, n));
            refused("doubt(" + n + ")", INDEX, x -> x.doubt(n));
        }
    }

    private static void players() {
        says("IndexOutOfBoundsException: there is no such PLAYER");
        for (int n : new int[] {-1, 3}) {
            refused("trade(" + n + ", 0)", INDEX, x -> x.trade(n, 0));
            refused("trade(0, " + n + ")", INDEX, x -> x.trade(0, n));
            refused("trade(" + n + ", " + n + ")", INDEX, x -> x.trade(n, n));
            refused("load(" + n + ")", INDEX, x -> x.load(n));
            refused("worst(" + n + ")", INDEX, x -> x.worst(n));
            refused("span(" + n + ")", INDEX, x -> x.span(n));
        }
        says("IllegalArgumentException: .. two are one");
        refused("trade(1, 1)", ARGUMENT, x -> x.trade(1, 1));
        refused("sure(2, 2, 0)", ARGUMENT, x -> x.sure(2, 2, 0));
        refused("swap(2, 2)", ARGUMENT, x -> x.swap(2, 2));
        refused("swap(2, 4)", ARGUMENT, x -> x.swap(2, 4));
    }

    private static void numbers() {
        says("IllegalArgumentException: a number is none");
        for (int n : new int[] {-1, 61}) {
            refused("turn(" + n + ")", ARGUMENT, x -> x.turn(n));
            refused("ahead(0, " + n + ", 2)", ARGUMENT, x -> x.ahead(0, n, 2));
            refused("trial(" + n + ", true)", ARGUMENT, x -> x.trial(n, true));
            refused("bounds(" + n + ", true)", ARGUMENT, x -> x.bounds(n, true));
        }
        refused("turn(0)", ARGUMENT, x -> x.turn(0));
        refused("slip(101)", ARGUMENT, x -> x.slip(101));
        refused("slip(-1)", ARGUMENT, x -> x.slip(-1));
        refused("hands(0, 41)", ARGUMENT, x -> x.hands(0, 41));
        refused("hands(0, -1)", ARGUMENT, x -> x.hands(0, -1));
        refused("chance(13, true)", ARGUMENT, x -> x.chance(13, true));
        refused("chance(-1, false)", ARGUMENT, x -> x.chance(-1, false));
    }

    private static void whats() {
        says("NoSuchElementException: another what");
        refused("hand(0, 8)", ELEMENT, x -> x.hand(0, 8));
        refused("hand(0, -1)", ELEMENT, x -> x.hand(0, -1));
        refused("note(0, 5)", ELEMENT, x -> x.note(0, 5));
        refused("note(0, -1)", ELEMENT, x -> x.note(0, -1));
        refused("ahead(0, 60, 2)", ELEMENT, x -> x.ahead(0, 60, 2));
        refused("ahead(0, 60, -1)", ELEMENT, x -> x.ahead(0, 60, -1));
        refused("log(0, 4)", ELEMENT, x -> x.log(0, 4));
        refused("log(0, -1)", ELEMENT, x -> x.log(0, -1));
    }

    private static void states() {
        says("IllegalStateException: it would stand again where another one of that KEY and BEAT stands");
        Supplier<FourHands> twins = () -> {
            FourHands x = piece("hand of 0 at 1 reach 1 skill 1;note 9 at 1;note 9 at 2;note 9 at 3");
            x.image();
            x.turn(3);
            x.strike(0, true);
            x.shift(0, 2);
            tell(x, "slip 55");
            return x;
        };
        refused("strike(0, false)", STATE, twins, x -> x.strike(0, false));
        says("IllegalStateException: it is not STRUCK, and another one of that KEY stands there");
        refused("shift(1, 3)", STATE, twins, x -> x.shift(1, 3));
        says("IllegalArgumentException: it is at that one");
        refused("shift(1, 2)", ARGUMENT, twins, x -> x.shift(1, 2));
        refused("shift(0, 2) of a struck one", ARGUMENT, twins, x -> x.shift(0, 2));
        says("IllegalStateException: it is STRUCK");
        refused("better(0)", STATE, twins, x -> x.better(0));
    }

    private static void wrongText(String what, Class<?> how, Supplier<FourHands> recipe, String text, Consumer<FourHands> call, int fault) {
        Supplier<FourHands> told = () -> {
            FourHands x = recipe.get();
            tell(x, text);
            return x;
        };
        FourHands x = told.get();
        fails(what, how, () -> call.accept(x));
        is("fault() behind " + what, x.fault(), fault);
        Consumer<FourHands> callAndMore = y -> {
            thrown(() -> call.accept(y));
            blame(y);
        };
        Supplier<FourHands> blamed = () -> {
            FourHands y = told.get();
            blame(y);
            tell(y, text);
            return y;
        };
        same(what, blamed, callAndMore, true);
    }

    /** fault() tells of another text then, so that objects can be compared that read different ones. */
    private static void blame(FourHands x) {
        tell(x, "?");
        thrown(x::law);
    }

    private static void texts() {
        says("Of a wrong text nothing stays.");
        String much = "slip 1;beat 1;page 1;slip 101";
        String law = "far 9;near 9;take if 7 < 8;take if";
        for (Supplier<FourHands> recipe : recipes()) {
            wrongText("a wrong piece", ARGUMENT, recipe, much, FourHands::piece, 26);
            wrongText("a piece of blanks and ;", ARGUMENT, recipe, "  ;", FourHands::piece, 2);
            wrongText("a wrong law", ARGUMENT, recipe, law, FourHands::law, 34);
            wrongText("a law too long", ARGUMENT, recipe, lines("far 1", 13), FourHands::law, 72);
        }
        wrongText("a wrong piece with notes", ARGUMENT, RefusedTest::fresh, "note 1 at 1;hand of 0 at 1 reach 1 skill 1;note 1 at 1", FourHands::piece, 53);
        wrongText("a hand too many", ARGUMENT, RefusedTest::rich, "slip 1; hand of 0 at 1 reach 1 skill 1", FourHands::piece, 8);
        wrongText("a note too many", ARGUMENT, RefusedTest::rich, "slip 1; note 1 at 1", FourHands::piece, 8);
        says("UnsupportedOperationException: there are 12.");
        wrongText("a 13th text", UNSUPPORTED, RefusedTest::twelveTexts, "slip 1;note 5 at 5;hand of 0 at 1 reach 1 skill 1", FourHands::piece, -1);
        wrongText("an empty 13th text", UNSUPPORTED, RefusedTest::twelveTexts, "", FourHands::piece, -1);
        says("Of several exceptions the one told first is thrown");
        wrongText("a wrong 13th text", ARGUMENT, RefusedTest::twelveTexts, "slip 1;note 5 at 12", FourHands::piece, 17);
    }

    private static java.util.List<Supplier<FourHands>> recipes() {
        return java.util.List.of(RefusedTest::fresh, RefusedTest::rich, RefusedTest::twelveTexts);
    }

    private static void wrongRow(String what, Consumer<FourHands> call, int... bytes) {
        Supplier<FourHands> told = () -> {
            FourHands x = rich();
            tellBytes(x, bytes);
            return x;
        };
        FourHands x = told.get();
        fails(what, ARGUMENT, () -> call.accept(x));
        same(what, told, call, true);
    }

    private static void rows() {
        says("IllegalArgumentException: the TAPE is not that");
        wrongRow("next of 21 keys", FourHands::next, new int[21]);
        wrongRow("next of key 64", FourHands::next, 1, 64);
        wrongRow("whose of 42 bytes", x -> x.whose(false), new int[42]);
        wrongRow("whose of 3 bytes", x -> x.whose(true), 0, 1, 0);
        wrongRow("whose of note 14", x -> x.whose(false), 14, 1);
        wrongRow("whose of a 2", x -> x.whose(false), 0, 2);
        wrongRow("ask of 42 bytes", FourHands::ask, new int[42]);
        wrongRow("ask of 1 byte", FourHands::ask, 0);
        wrongRow("ask of note 14", FourHands::ask, 13, 0, 14, 0);
        wrongRow("ask of a 2", FourHands::ask, 0, 2);
    }

    // ---- calls that answer that nothing happened

    private static void quietly() {
        Supplier<FourHands> fullTape = () -> {
            FourHands x = rich();
            StringBuilder s = new StringBuilder("slip 66");
            while (s.length() < 381) s.append(' ');
            tell(x, s.toString());
            return x;
        };
        says("NONE, and none come, if it would have more than 400.");
        is("feed behind 381", fullTape.get().feed(0, 0, 0, 0, 0), -1);
        same("feed behind 381", fullTape, x -> x.feed(0x31313131, 0, 0, 0, 0), false);
        says("false, and nothing happens, if it has fewer, or n is below 0.");
        for (int n : new int[] {-1, Integer.MIN_VALUE, 8, 400, Integer.MAX_VALUE}) {
            is("end(" + n + ")", rich().end(n), false);
            same("end(" + n + ")", RefusedTest::rich, x -> x.end(n), false);
        }
        same("end of all that there is", RefusedTest::rich, x -> x.end(7), false);
        says("false, and nothing happens, if none was kept.");
        Supplier<FourHands> bare = () -> {
            FourHands x = twelveTexts();
            rule(x, "far 3");
            x.turn(9);
            tell(x, "slip 55");
            return x;
        };
        is("back()", bare.get().back(), false);
        same("back()", bare, FourHands::back, false);
        says("UNDONE: whether there was one.");
        is("undo()", fresh().undo(), false);
        same("undo()", RefusedTest::fresh, FourHands::undo, false);
        Supplier<FourHands> backed = () -> {
            FourHands x = rich();
            x.back();
            return x;
        };
        is("undo() behind back()", backed.get().undo(), false);
        same("undo() behind back()", backed, FourHands::undo, false);
    }

    // ---- calls that only look

    private static void looks() {
        says("nothing stays");
        for (int i = -1; i <= 14; i++) {
            int n = i;
            same("count(" + n + ")", RefusedTest::rich, x -> x.count(n), false);
        }
        same("all of a hand", RefusedTest::rich, x -> { for (int w = 0; w < 8; w++) x.hand(1, w); }, false);
        same("all of a note", RefusedTest::rich, x -> { for (int w = 0; w < 5; w++) x.note(2, w); }, false);
        same("fault, can, reaches", RefusedTest::rich, x -> { x.fault(); x.can(0, 0); x.reaches(0, 0); }, false);
        for (int i = 0; i < 12; i++) {
            int b = i;
            same("all of beat " + b, RefusedTest::rich, x -> { x.of(b); x.holds(b, 0); x.left(b); x.go(b); x.third(b); x.hands(b, 3); x.tune(b, true); x.sure(0, 1, b); x.doubt(b); }, false);
        }
        same("full, part, easy, needed", RefusedTest::rich, x -> { x.full(); x.part(); x.easy(); x.needed(); }, false);
        same("missed", RefusedTest::rich, FourHands::missed, false);
        same("spare", RefusedTest::rich, FourHands::spare, false);
        same("best", RefusedTest::rich, FourHands::best, false);
        same("clean", RefusedTest::rich, FourHands::clean, false);
        for (int i = 0; i < 14; i += 3) {
            int n = i;
            same("better(" + n + ")", RefusedTest::rich, x -> x.better(n), false);
        }
        same("steps, octaves, sevens, like", RefusedTest::rich, x -> { x.steps(1); x.octaves(); x.sevens(); x.like(); }, false);
        same("trade", RefusedTest::rich, x -> { x.trade(0, 1); x.trade(1, 2); x.trade(2, 0); }, false);
        same("load, worst, span", RefusedTest::rich, x -> { x.load(1); x.worst(1); x.span(1); }, false);
        same("chance, expect", RefusedTest::rich, x -> { x.chance(12, true); x.expect(); }, false);
        same("rests, free, cross", RefusedTest::rich, x -> { x.rests(2); x.free(); x.cross(); }, false);
        same("hardest, tires, alike", RefusedTest::rich, x -> { x.hardest(); x.tires(); x.alike(); }, false);
        same("ahead", RefusedTest::rich, x -> x.ahead(0, 60, 1), false);
        same("trial", RefusedTest::rich, x -> x.trial(60, true), false);
        same("bounds", RefusedTest::rich, x -> x.bounds(60, true), false);
        same("led, log", RefusedTest::rich, x -> { x.led(0, true); x.led(0, false); x.log(-1, 0); x.log(60, 3); }, false);
        says("Uses the TAPE up");
        looksAtTape("next", FourHands::next, 5, 63);
        looksAtTape("whose", x -> x.whose(true), 13, 1, 0, 0);
        looksAtTape("ask", FourHands::ask, 13, 1, 0, 0);
    }

    private static void looksAtTape(String what, Consumer<FourHands> call, int... bytes) {
        Supplier<FourHands> told = () -> {
            FourHands x = rich();
            tellBytes(x, bytes);
            return x;
        };
        FourHands x = told.get();
        fails(what, null, () -> call.accept(x));
        is("the tape behind " + what, x.end(1), false);
        same(what, told, call, true);
    }
}
