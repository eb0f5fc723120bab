import java.util.function.Consumer;

/**
 * Hands and notes, ways, turns, acts, looks ahead, the log, acts undone and the image (promises 1, 7 to 23, 46, 47, 54 and
 * 56 to 65): each bound from both of its sides.
 */
public final class PlayEdgesTest extends Checks {
    public static void main(String[] args) {
        newObject();
        handsAndNotesThatAre();
        beatsPlayersNumbers();
        whats();
        whichIsFirst();
        tiredness();
        skill();
        distance();
        way();
        wayOfMany();
        turnOrder();
        pages();
        countsAtMost();
        draws();
        turnsOfACall();
        handActs();
        noteActs();
        odds();
        tires();
        trials();
        log();
        shares();
        led();
        undone();
        remembered();
        forgotten();
        image();
        counts();
        report("PlayEdgesTest");
    }

    // ---- pieces

    private static String everyBeat(int key) {
        StringBuilder s = new StringBuilder("note " + key + " at 0");
        for (int beat = 1; beat < 12; beat++) s.append(";note ").append(key).append(" at ").append(beat);
        return s.toString();
    }

    /** A hand that reaches its key alone, which comes at every beat. */
    private static FourHands steady(int skill) { return piece("hand of 0 at 1 reach 0 skill " + skill, everyBeat(1)); }

    /** Hands that reach all keys, and notes at one beat behind another. */
    private static FourHands crowd(int hands, int notes) {
        StringBuilder h = new StringBuilder();
        for (int i = 0; i < hands; i++) h.append(i == 0 ? "" : ";").append("hand of ").append(i % 3).append(" at ").append(10 * i).append(" reach 40 skill 9");
        StringBuilder n = new StringBuilder();
        for (int i = 0; i < notes; i++) n.append(i == 0 ? "" : ";").append("note ").append(4 * i).append(" at ").append(i % 12);
        return piece(h.toString(), n.toString());
    }

    private static FourHands after(FourHands x, int turns) {
        for (int left = turns; left > 0; left -= 60) x.turn(Math.min(60, left));
        return x;
    }

    // ---- arguments

    private static void newObject() {
        promise = 1;
        says("A piece without NOTES.");
        int[] counts = {0, 0, 0, -1, 0, 0, 0, 0, 0, 0, 0, 0, 0, 0};
        FourHands x = new FourHands();
        for (int what = 0; what < 14; what++) is("count(" + what + ")", x.count(what), counts[what]);
        is("fault", x.fault(), -1);
        is("the tape", x.end(1), false);
        is("undo", x.undo(), false);
        is("back", x.back(), false);
        is("log", x.log(0, 0), -2);
        for (int beat = 0; beat < 12; beat++) {
            is("of", x.of(beat), 0);
            is("left", x.left(beat), 0);
            is("go", x.go(beat), 0);
            is("third", x.third(beat), 0);
            is("hands", x.hands(beat, 0), 0);
            is("tune", x.tune(beat, true), -1);
            is("tune", x.tune(beat, false), -1);
            is("doubt", x.doubt(beat), 0);
        }
        for (int player = 0; player < 3; player++) {
            is("load", x.load(player), 0);
            is("worst", x.worst(player), -1);
            is("span", x.span(player), 0);
            is("trade", x.trade(player, (player + 1) % 3), -1);
        }
        int[] got = {x.full(), x.part(), x.needed(), x.missed(), x.spare(), x.best(), x.clean(), x.steps(0), x.next(), x.octaves(), x.sevens(), x.like(),
            x.whose(false), x.whose(true), x.ask(), x.chance(12, false), x.chance(12, true), x.expect(), x.free(), x.cross(), x.hardest(), x.tires(), x.alike(),
            x.trial(60, false), x.trial(60, true), x.bounds(60, false), x.bounds(60, true), x.seed(5), x.turn(60)};
        int[] due = {-1, 0, 0, -1, 0, 0, 0, 0, -1, 0, 0, 0, 360, 1, -1, 0, 10000, 0, 0, 0, -1, -1, 0, 0, 0, 0, 0, 1, 0};
        for (int i = 0; i < due.length; i++) is("answer " + i, got[i], due[i]);
        is("easy", x.easy(), true);
        is("page", x.count(5), 5);
        is("no draws", x.seed(0), 5);
        says("An object is used for at most 512 calls after it has been made");
        FourHands busy = new FourHands();
        for (int call = 1; call <= 510; call++) busy.slip(call % 101);
        is("the 511th call", busy.undo(), true);
        is("the 512th call", busy.count(6), 509 % 101);
    }

    private static void handsAndNotesThatAre() {
        says("IndexOutOfBoundsException: there is no such HAND, NOTE");
        for (int k = 0; k <= 6; k++) {
            int hands = k;
            FourHands x = crowd(hands, 14);
            promise = 7;
            bounded("hand", 0, hands - 1, INDEX, n -> x.hand(n, 0));
            promise = 9;
            bounded("can", 0, hands - 1, INDEX, n -> x.can(n, 0));
            promise = 10;
            bounded("reaches", 0, hands - 1, INDEX, n -> x.reaches(n, 0));
            promise = 12;
            bounded("put", 0, hands - 1, INDEX, n -> x.put(n, 1));
            promise = 13;
            bounded("rest", 0, hands - 1, INDEX, n -> x.rest(n));
            promise = 14;
            bounded("bind", 0, hands - 1, INDEX, n -> x.bind(n, false));
            promise = 20;
            bounded("holds", 0, hands - 1, INDEX, n -> x.holds(0, n));
            promise = 49;
            bounded("rests", 0, hands - 1, INDEX, n -> x.rests(n));
            promise = 56;
            bounded("ahead", 0, hands - 1, INDEX, n -> x.ahead(n, 1, 0));
            if (hands < 2) continue;
            promise = 18;
            bounded("swap's other", 1, hands == 2 ? 1 : 2, INDEX, n -> crowd(Math.min(3, hands), 1).swap(0, n == 0 ? -1 : n));
            bounded("swap's first", 1, hands == 2 ? 1 : 2, INDEX, n -> crowd(Math.min(3, hands), 1).swap(n == 0 ? -1 : n, 0));
            promise = 44;
            bounded("sure's other", 1, hands - 1, INDEX, n -> x.sure(0, n == 0 ? -1 : n, 0));
            bounded("sure's first", 1, hands - 1, INDEX, n -> x.sure(n == 0 ? -1 : n, 0, 0));
        }
        for (int k = 0; k <= 14; k++) {
            int notes = k;
            FourHands x = crowd(1, notes);
            promise = 8;
            bounded("note", 0, notes - 1, INDEX, n -> x.note(n, 0));
            promise = 9;
            bounded("can", 0, notes - 1, INDEX, n -> x.can(0, n));
            promise = 10;
            bounded("reaches", 0, notes - 1, INDEX, n -> x.reaches(0, n));
            promise = 15;
            bounded("strike", 0, notes - 1, INDEX, n -> x.strike(n, false));
            promise = 16;
            bounded("shift", 0, notes - 1, INDEX, n -> crowd(0, notes).shift(n, Math.floorMod(n + 1, 12)));
            promise = 33;
            bounded("better", 0, notes - 1, INDEX, n -> x.better(n));
            promise = 59;
            bounded("led", 0, notes - 1, INDEX, n -> x.led(n, false));
        }
    }

    private static void beatsPlayersNumbers() {
        FourHands x = crowd(6, 14);
        says("IndexOutOfBoundsException: there is no such .. BEAT");
        promise = 16;
        bounded("shift", 0, 11, INDEX, n -> { FourHands y = crowd(0, 14); y.shift(5, n); });
        promise = 19;
        bounded("of", 0, 11, INDEX, n -> x.of(n));
        promise = 20;
        bounded("holds", 0, 11, INDEX, n -> x.holds(n, 0));
        promise = 21;
        bounded("left", 0, 11, INDEX, n -> x.left(n));
        promise = 22;
        bounded("go", 0, 11, INDEX, n -> x.go(n));
        promise = 23;
        bounded("third", 0, 11, INDEX, n -> x.third(n));
        promise = 27;
        bounded("hands", 0, 11, INDEX, n -> x.hands(n, 0));
        bounded("hands' r", 0, 40, ARGUMENT, n -> x.hands(0, n));
        promise = 34;
        bounded("tune", 0, 11, INDEX, n -> x.tune(n, true));
        promise = 44;
        bounded("sure", 0, 11, INDEX, n -> x.sure(0, 1, n));
        promise = 45;
        bounded("doubt", 0, 11, INDEX, n -> x.doubt(n));
        says("IndexOutOfBoundsException: there is no such .. KEY");
        promise = 12;
        bounded("put", 0, 63, INDEX, n -> x.put(0, n));
        says("IndexOutOfBoundsException: there is no such .. PLAYER");
        promise = 42;
        bounded("trade's first", 0, 1, INDEX, n -> x.trade(n == 2 ? 3 : n, 2));
        bounded("trade's first", 1, 2, INDEX, n -> x.trade(n == 0 ? -1 : n, 0));
        bounded("trade's other", 0, 1, INDEX, n -> x.trade(2, n == 2 ? 3 : n));
        bounded("trade's other", 1, 2, INDEX, n -> x.trade(0, n == 0 ? -1 : n));
        promise = 43;
        bounded("load", 0, 2, INDEX, n -> x.load(n));
        promise = 48;
        bounded("worst", 0, 2, INDEX, n -> x.worst(n));
        promise = 51;
        bounded("span", 0, 2, INDEX, n -> x.span(n));
        says("IllegalArgumentException: a number is none");
        promise = 11;
        bounded("turn", 1, 60, ARGUMENT, n -> x.turn(n));
        promise = 17;
        bounded("slip", 0, 100, ARGUMENT, n -> x.slip(n));
        promise = 46;
        bounded("chance", 0, 12, ARGUMENT, n -> x.chance(n, false));
        bounded("odds", 0, 12, ARGUMENT, n -> x.chance(n, true));
        promise = 56;
        bounded("ahead", 0, 60, ARGUMENT, n -> x.ahead(0, n, 0));
        promise = 57;
        bounded("trial", 0, 60, ARGUMENT, n -> x.trial(n, false));
        promise = 58;
        bounded("bounds", 0, 60, ARGUMENT, n -> x.bounds(n, true));
    }

    private static void whats() {
        says("NoSuchElementException: another what.");
        FourHands x = crowd(2, 2);
        promise = 7;
        bounded("hand", 0, 7, ELEMENT, what -> x.hand(1, what));
        promise = 8;
        bounded("note", 0, 4, ELEMENT, what -> x.note(1, what));
        promise = 56;
        bounded("ahead", 0, 1, ELEMENT, what -> x.ahead(1, 5, what));
        promise = 60;
        bounded("log without rows", 0, 3, ELEMENT, what -> x.log(0, what));
        bounded("log of a row that is none", 0, 3, ELEMENT, what -> x.log(-1, what));
        x.turn(1);
        bounded("log", 0, 3, ELEMENT, what -> x.log(0, what));
    }

    private static void whichIsFirst() {
        says("Of several exceptions the one told first is thrown");
        FourHands x = crowd(6, 14);
        promise = 7;
        index("no hand, no what", () -> x.hand(6, 8));
        promise = 8;
        index("no note, no what", () -> x.note(14, 5));
        promise = 16;
        index("no note, no beat", () -> x.shift(14, 12));
        index("no beat", () -> x.shift(0, 12));
        FourHands twins = piece("note 9 at 1;note 9 at 2");
        twins.strike(0, true);
        twins.shift(0, 2);
        argument("at that one, where another one stands", () -> twins.shift(0, 2));
        promise = 18;
        fails("no hands, and both are one", INDEX, () -> x.swap(6, 6));
        fails("one hand", ARGUMENT, () -> x.swap(5, 5));
        fails("of one player", ARGUMENT, () -> x.swap(0, 3));
        fails("of unlike players", null, () -> x.swap(0, 1));
        promise = 27;
        index("no beat, no r", () -> x.hands(12, 41));
        argument("no r", () -> x.hands(11, 41));
        promise = 33;
        twins.strike(1, true);
        index("no note", () -> twins.better(2));
        fails("struck", STATE, () -> twins.better(1));
        promise = 42;
        index("no players, and both are one", () -> x.trade(3, 3));
        argument("one player", () -> x.trade(2, 2));
        promise = 44;
        indexOf("no hands, and both are one", () -> x.sure(6, 6, 0));
        indexOf("no beat, and both are one", () -> x.sure(5, 5, 12));
        fails("one hand", ARGUMENT, () -> x.sure(5, 5, 11));
        promise = 56;
        index("no hand, no n, no what", () -> x.ahead(6, 61, 2));
        argument("no n, no what", () -> x.ahead(5, 61, 2));
        fails("no what", ELEMENT, () -> x.ahead(5, 60, 2));
    }

    // ---- what hands can

    private static void tiredness() {
        promise = 11;
        says("its HAND is AT its KEY then, TIRED by HARD and 1 more (99 at most)");
        for (int hard = 0; hard <= 9; hard++) {
            FourHands x = piece("hand of 0 at 1 reach 9 skill 9;note 5 at 0 hard " + hard);
            x.turn(1);
            is("tired by hard " + hard, x.hand(0, 4), hard + 1);
            is("at", x.hand(0, 1), 5);
        }
        FourHands most = after(steady(9), 97);
        for (int due : new int[] {97, 98, 99, 99, 99}) {
            is("tired", most.hand(0, 4), due);
            most.turn(1);
        }
        is("all were played", most.count(7), 102);
        says("HANDS without a NOTE of it: TIRED is 1 less (0 at least)");
        FourHands least = piece("hand of 0 at 1 reach 9 skill 9;note 1 at 0 hard 1");
        for (int due : new int[] {0, 2, 1, 0, 0}) {
            is("tired", least.hand(0, 4), due);
            least.turn(1);
        }
        FourHands bound = after(steady(9), 5);
        bound.bind(0, true);
        bound.turn(4);
        is("a bound one, too", bound.hand(0, 4), 1);
        bound.turn(2);
        is("a bound one, too", bound.hand(0, 4), 0);
        promise = 13;
        says("It rests: TIRED that it was.");
        is("rest", most.rest(0), 99);
        is("rest again", most.rest(0), 0);
    }

    private static void skill() {
        promise = 9;
        says("SKILL less TIRED by 10 (rounded down) is HARD at least");
        for (int skill = 0; skill <= 9; skill++) {
            for (int tens = 0; tens <= skill + 1 && tens <= 9; tens++) {
                for (int tired = Math.max(0, 10 * tens - 1); tired <= 10 * tens; tired++) canAtMost(skill, tired);
            }
        }
        canAtMost(9, 99);
        FourHands spent = after(steady(0), 10);
        is("ten were played", spent.count(7), 10);
        is("the 11th is left over", spent.turn(1), 1);
        is("the 12th is not", spent.turn(1), 0);
    }

    private static void canAtMost(int skill, int tired) {
        int most = skill - tired / 10;
        FourHands x = steady(skill);
        add(x, "note 50 at 0 hard " + Math.max(0, most) + ";note 50 at 1 hard " + Math.min(9, most + 1));
        after(x, tired);
        is("tired", x.hand(0, 4), tired);
        x.put(0, 50);
        is("skill " + skill + " tired " + tired + " can hard " + Math.max(0, most), x.can(0, 12), most >= 0);
        is("skill " + skill + " tired " + tired + " can hard " + Math.min(9, most + 1), x.can(0, 13), most + 1 > 9);
    }

    private static void distance() {
        promise = 9;
        says("the KEY is from where it is AT no farther than it REACHES");
        for (int reach : new int[] {0, 1, 2, 39, 40}) {
            FourHands x = piece("hand of 0 at 0 reach " + reach + " skill 0;note 0 at 0;note 63 at 0;note 31 at 0");
            int[] keys = {0, 63, 31};
            for (int at = 0; at < 64; at++) {
                x.put(0, at);
                for (int n = 0; n < 3; n++) is("key " + keys[n] + " from " + at + " with " + reach, x.can(0, n), Math.abs(keys[n] - at) <= reach);
            }
        }
        says("it is not BOUND");
        FourHands y = piece("hand of 0 at 5 reach 0 skill 9;hand of 0 at 5 reach 0 skill 9;note 5 at 0 hard 9");
        y.bind(0, true);
        is("bound", y.can(0, 0), false);
        is("the other one", y.can(1, 0), true);
        y.bind(0, false);
        is("no more", y.can(0, 0), true);
        says("CAN (false, if it is STRUCK).");
        y.strike(0, true);
        is("struck", y.can(0, 0), false);
        is("reaches of a struck one", y.reaches(0, 0), 0);
        y.strike(0, false);
        is("it stands again", y.can(0, 0), true);
        promise = 10;
        says("REACHES");
        FourHands z = piece("hand of 0 at 5 reach 0 skill 0;hand of 0 at 5 reach 40 skill 0;note 63 at 0 hard 9");
        z.bind(1, true);
        is("without a law", z.reaches(0, 0), 0);
        is("of a hand that is bound and has no skill for it", z.reaches(1, 0), 40);
    }

    // ---- ways

    private static void way() {
        promise = 20;
        says("as many as can be");
        FourHands x = piece("hand of 0 at 10 reach 30 skill 9;hand of 0 at 10 reach 0 skill 9;note 10 at 0;note 40 at 0;note 10 at 1;note 41 at 1");
        is("both, though one goes far", x.holds(0, 0), 1);
        is("both, though one goes far", x.holds(0, 1), 0);
        is("go", x.go(0), 30);
        is("one alone, the least hand", x.holds(1, 0), 2);
        is("none", x.holds(1, 1), -1);
        is("left", x.left(1), 8);
        is("go", x.go(1), 0);
        says("of these by which HANDS go the least together (from AT to the KEYS)");
        int[] other = {4, 11, 13, 20};
        int[] first = {1, 1, 0, 0};
        int[] go = {8, 3, 3, 8};
        for (int i = 0; i < 4; i++) {
            FourHands y = piece("hand of 0 at 10 reach 40 skill 9;hand of 0 at 14 reach 40 skill 9;note 12 at 0;note " + other[i] + " at 0");
            is("note 0 beside key " + other[i], y.holds(0, first[i]), 0);
            is("note 1", y.holds(0, 1 - first[i]), 1);
            is("go", y.go(0), go[i]);
        }
        says("of these the first (NOTE by NOTE, the least HAND that can be, none behind all HANDS)");
        int[][] asFar = {{20, 30}, {30, 20}, {14, 20}, {0, 10}, {10, 0}};
        for (int[] keys : asFar) {
            FourHands y = piece("hand of 0 at 10 reach 40 skill 9;hand of 0 at 14 reach 40 skill 9;note " + keys[0] + " at 0;note " + keys[1] + " at 0");
            is("hand 0 with keys " + keys[0] + " and " + keys[1], y.holds(0, 0), 0);
            is("hand 1 with keys " + keys[0] + " and " + keys[1], y.holds(0, 1), 1);
        }
        int[] near = {11, 12, 13};
        for (int key : near) {
            FourHands y = piece("hand of 0 at 10 reach 40 skill 9;note " + key + " at 0;note 8 at 0");
            is("one hand with keys " + key + " and 8", y.holds(0, 0), key <= 12 ? 0 : 1);
            is("left", y.left(0), key <= 12 ? 2 : 1);
            is("third", y.third(0), key <= 12 ? 2 : 1);
        }
        FourHands z = piece("hand of 0 at 10 reach 5 skill 9;hand of 1 at 10 reach 5 skill 9;note 8 at 0;note 12 at 0;note 10 at 0");
        is("the first note has the least hand", z.holds(0, 0), 0);
        is("the last one the other", z.holds(0, 1), 2);
        is("the one between has none", z.left(0), 2);
        is("go", z.go(0), 2);
        says("HOLDS of a BEAT and a HAND: .. none");
        for (int beat = 1; beat < 12; beat++) is("holds(" + beat + ", 0)", z.holds(beat, 0), -1);
    }

    private static void wayOfMany() {
        promise = 21;
        says("LEFT of a BEAT: NOTES left over in it, as bits.");
        StringBuilder n = new StringBuilder("note 23 at 11");
        for (int key = 24; key <= 36; key++) n.append(";note ").append(key).append(" at 11");
        FourHands x = piece(lines("hand of 0 at 30 reach 40 skill 9", 6), n.toString());
        is("of", x.of(11), (1 << 14) - 1);
        is("eight of fourteen", x.left(11), 15 | 15 << 10);
        is("go", x.go(11), 9);
        for (int hand = 0; hand < 6; hand++) is("holds(11, " + hand + ")", x.holds(11, hand), hand + 4);
        rule(x, "take if key > 35 or key < 24");
        promise = 23;
        says("THIRD of a BEAT: of those left over what the third one TAKES, as bits.");
        is("third", x.third(11), 1 | 1 << 13);
        rule(x, "take if key > 26 and key < 33");
        is("those that hands have are not left over", x.third(11), 0);
        for (int hand = 0; hand < 6; hand++) x.bind(hand, true);
        is("all are left over", x.left(11), (1 << 14) - 1);
        is("third", x.third(11), 63 << 4);
        is("none goes", x.go(11), 0);
        promise = 19;
        says("OF a BEAT: its NOTES, not STRUCK, as bits.");
        x.strike(0, true);
        x.strike(13, true);
        is("of", x.of(11), (1 << 13) - 2);
        is("struck ones are not left over", x.left(11), (1 << 13) - 2);
        is("of another beat", x.of(10), 0);
    }

    // ---- turns

    private static void turnOrder() {
        promise = 11;
        says("(a) each NOTE in its WAY, by numbers .. (c) each NOTE of it that is left over, by numbers");
        FourHands x = piece("hand of 0 at 20 reach 0 skill 9;hand of 0 at 10 reach 0 skill 9;note 50 at 0;note 10 at 0;note 51 at 0 hard 1;note 20 at 0");
        rule(x, "take if hard > 0");
        is("left over", x.turn(1), 2);
        int[][] rows = {{0, 2, -1, 2}, {0, 0, -1, 3}, {0, 3, 0, 0}, {0, 1, 1, 0}};
        for (int ago = 0; ago < 4; ago++) for (int what = 0; what < 4; what++) is("log(" + ago + ", " + what + ")", x.log(ago, what), rows[ago][what]);
        int seed = 1;
        while (draw(next(seed)) >= 50 || draw(next(next(seed))) < 50) seed++;
        x.seed(seed);
        x.slip(50);
        x.turn(12);
        is("the first draw is the first note's", x.log(3, 3), 1);
        is("the second draw is the second one's", x.log(2, 3), 0);
        is("two draws", x.seed(0), next(next(seed)));
        says("if DRAW modulo 100 is below SLIP it is SLIPPED, else PLAYED; its HAND is AT its KEY then");
        FourHands slips = piece("hand of 0 at 20 reach 9 skill 9;note 29 at 0 hard 3;slip 100");
        slips.turn(1);
        is("slipped", slips.count(8), 1);
        is("at", slips.hand(0, 1), 29);
        is("tired", slips.hand(0, 4), 4);
        says("CAN, REACHES, TAKES by all as it is ahead of (a)");
        FourHands page = piece("note 1 at 11;beat 11;page 4");
        rule(page, "take if page < 5");
        page.turn(1);
        is("taken on page 4", page.log(0, 3), 2);
        page.turn(12);
        is("lost on page 5", page.log(0, 3), 3);
        FourHands law = piece("hand of 0 at 1 reach 0 skill 9;hand of 1 at 1 reach 0 skill 9;note 1 at 0;note 3 at 0");
        rule(law, "far 2 if tired < 1");
        is("both at once", law.turn(1), 0);
        law.put(0, 1);
        law.put(1, 1);
        law.seed(1);
        law.turn(11);
        law.turn(1);
        is("eased by then", law.count(7), 4);
    }

    private static void pages() {
        promise = 11;
        says("(d) BEAT is 1 more; behind 11 it is 0, and PAGE is 1 more");
        FourHands x = piece("beat 10;page 999;note 1 at 11;note 1 at 0");
        int[][] due = {{10, 999}, {11, 999}, {0, 1000}, {1, 1000}};
        for (int[] d : due) {
            is("beat", x.count(4), d[0]);
            is("page", x.count(5), d[1]);
            x.turn(1);
        }
        is("the row of beat 11 is of the page that was", x.log(1, 0), 999);
        is("the row of beat 0 is of the next one", x.log(0, 0), 1000);
        says("PAGE 0 to 9999");
        FourHands far = piece("page 999;note 1 at 11");
        for (int calls = 1; calls <= 480; calls++) far.turn(60);
        is("five pages a call", far.count(5), 999 + 5 * 480);
        is("the page of a row", far.log(0, 0), 999 + 5 * 480 - 1);
    }

    private static void countsAtMost() {
        promise = 65;
        says("PLAYED, SLIPPED, TAKEN, LOST: how many NOTES were, 0 to 9999 (0 at first).");
        String extra = "note 2 at 10;note 2 at 11";
        String hands = lines("hand of 0 at 1 reach 9 skill 9", 2);
        FourHands played = piece(hands, everyBeat(1), extra);
        FourHands slipped = piece(hands, everyBeat(1), extra, "slip 100");
        FourHands taken = piece(everyBeat(1), extra);
        FourHands lost = piece(everyBeat(1), extra);
        rule(lost, "take if 2 < 1");
        FourHands[] all = {played, slipped, taken, lost};
        for (int kind = 0; kind < 4; kind++) {
            FourHands x = all[kind];
            int left = 0;
            for (int i = 0; i < 142; i++) left += x.turn(60);
            left += x.turn(48);
            is("left over", left, kind < 2 ? 0 : 9996);
            for (int due : new int[] {9996, 9997, 9998, 9999, 9999}) {
                for (int other = 0; other < 4; other++) is("count(" + (7 + other) + ")", x.count(7 + other), other == kind ? due : 0);
                is("left over", x.turn(1), kind < 2 ? 0 : 1);
            }
            is("trial of slips", x.trial(60, false), kind == 1 ? 9999 : 0);
            is("trial of losses", x.trial(60, true), kind == 3 ? 9999 : 0);
            is("the least", x.bounds(60, false), kind == 1 ? 9999 : 0);
            is("the greatest", x.bounds(60, true), kind == 1 ? 9999 : 0);
            is("60 rows", x.count(12), 60);
        }
    }

    private static int next(int seed) { return (int) (1103515245L * seed + 12345L); }

    /** Of a seed that was drawn: bits 16 to 30, modulo 100. */
    private static int draw(int seed) { return (int) ((seed & 0xffffffffL) / 65536 % 32768 % 100); }

    private static void draws() {
        promise = 61;
        says("SEED is 1103515245 times SEED and 12345, as an int that goes round; bits 16 to 30");
        int[] seeds = new int[340];
        for (int i = 0; i < seeds.length; i++) seeds[i] = i * i * 40503 - i * 7919;
        seeds[0] = Integer.MIN_VALUE;
        seeds[1] = Integer.MAX_VALUE;
        seeds[2] = 0;
        seeds[3] = -1;
        seeds[4] = 1;
        int lowest = 100;
        int highest = -1;
        for (int seed : seeds) {
            FourHands x = piece("hand of 0 at 1 reach 1 skill 9;note 1 at 0");
            int drawn = draw(next(seed));
            lowest = Math.min(lowest, drawn);
            highest = Math.max(highest, drawn);
            for (int slip : new int[] {0, drawn, drawn + 1, 100}) {
                x.seed(seed);
                x.slip(slip);
                x.turn(12);
                is("seed " + seed + " slip " + slip, x.log(0, 3), drawn < slip ? 1 : 0);
                is("the seed behind it", x.seed(seed), next(seed));
            }
        }
        is("a draw of 0 was seen", lowest, 0);
        is("a draw of 99 was seen", highest, 99);
        says("SEED: what it was.");
        FourHands y = new FourHands();
        int[] told = {Integer.MIN_VALUE, Integer.MAX_VALUE, 0, -1, 1};
        int was = 1;
        for (int seed : told) {
            is("seed(" + seed + ")", y.seed(seed), was);
            was = seed;
        }
        says("no DRAWS");
        FourHands idle = piece("hand of 0 at 1 reach 1 skill 9;note 50 at 0;note 1 at 1;slip 50");
        idle.turn(1);
        is("a note left over draws none", idle.seed(1), 1);
        idle.ahead(0, 60, 0);
        idle.part();
        idle.chance(12, true);
        idle.tires();
        idle.trial(60, false);
        idle.bounds(60, true);
        is("looks ahead draw none", idle.seed(1), 1);
        idle.slip(0);
        idle.turn(1);
        is("with slip 0 it is drawn all the same", idle.seed(1), next(1));
    }

    private static void turnsOfACall() {
        promise = 11;
        says("So many TURNS more (1 to 60): how many NOTES were left over in these.");
        FourHands x = piece(everyBeat(1), "note 2 at 0");
        is("turn(1)", x.turn(1), 2);
        is("turn(11)", x.turn(11), 11);
        is("turn(60)", x.turn(60), 65);
        is("page", x.count(5), 6);
        is("an act each", x.count(13), 3);
    }

    // ---- acts

    private static void handActs() {
        promise = 12;
        says("A HAND is put to a KEY: where it was AT.");
        FourHands x = crowd(2, 2);
        is("put(1, 63)", x.put(1, 63), 10);
        is("put(1, 0)", x.put(1, 0), 63);
        is("put(1, 0)", x.put(1, 0), 0);
        is("the other one", x.hand(0, 1), 0);
        promise = 14;
        says("BOUND, or not: whether that changed.");
        boolean[] is = {true, true, false, false, true};
        boolean[] changed = {true, false, true, false, true};
        for (int hand = 0; hand < 6; hand += 5) {
            FourHands y = crowd(6, 1);
            for (int i = 0; i < is.length; i++) {
                is("bind " + i, y.bind(hand, is[i]), changed[i]);
                for (int h = 0; h < 6; h++) is("hand " + h + " is bound", y.hand(h, 5), h == hand && is[i] ? 1 : 0);
            }
        }
        promise = 17;
        says("SLIP is told: what it was.");
        is("slip(100)", x.slip(100), 0);
        is("slip(0)", x.slip(0), 100);
        is("slip(0)", x.slip(0), 0);
        promise = 18;
        says("Two HANDS change their PLAYERS.");
        FourHands y = crowd(6, 1);
        y.swap(0, 5);
        int[] players = {2, 1, 2, 0, 1, 0};
        for (int h = 0; h < 6; h++) is("player of " + h, y.hand(h, 0), players[h]);
        fails("both are of one", ARGUMENT, () -> y.swap(0, 2));
        y.swap(5, 0);
        is("player of 5", y.hand(5, 0), 2);
        is("nothing else changed", y.hand(0, 1) + y.hand(5, 1), 50);
    }

    private static void noteActs() {
        promise = 15;
        says("IllegalStateException: it would stand again where another one of that KEY and BEAT stands.");
        FourHands x = piece("note 9 at 1;note 9 at 2;note 10 at 1;note 9 at 3");
        x.strike(0, true);
        is("others of that key, or of that beat", x.strike(0, false), true);
        is("it stands", x.strike(0, false), false);
        x.strike(0, true);
        is("struck again", x.strike(0, true), false);
        x.shift(0, 2);
        fails("another one of both", STATE, () -> x.strike(0, false));
        is("struck all the same", x.strike(0, true), false);
        x.strike(1, true);
        is("the other one is struck", x.strike(0, false), true);
        fails("now it stands in the other one's way", STATE, () -> x.strike(1, false));
        promise = 16;
        says("IllegalStateException: it is not STRUCK, and another one of that KEY stands there.");
        FourHands y = piece("note 9 at 1;note 9 at 2;note 10 at 3");
        fails("another one of that key", STATE, () -> y.shift(0, 2));
        is("another one of another key", y.shift(0, 3), 1);
        is("the last beat", y.shift(0, 11), 3);
        is("the first beat", y.shift(0, 0), 11);
        argument("it is at that one", () -> y.shift(0, 0));
        y.strike(0, true);
        is("it is struck", y.shift(0, 2), 0);
        argument("it is at that one, and struck", () -> y.shift(0, 2));
        is("and back", y.shift(0, 0), 2);
        y.strike(0, false);
        y.strike(1, true);
        is("the other one is struck", y.shift(0, 2), 0);
        is("both are there", y.note(0, 0) + y.note(1, 0), 4);
        is("one stands", y.of(2), 1);
    }

    // ---- looks ahead

    private static void odds() {
        promise = 46;
        says("CHANCE of N TURNS (0 to 12) AHEAD: how many NOTES HANDS have in these");
        FourHands x = steady(9);
        for (int n = 0; n <= 12; n++) is("chance(" + n + ")", x.chance(n, false), n);
        says("ODDS: 10000, for each of these NOTES times 100 less SLIP by 100, rounded down each time.");
        for (int slip : new int[] {0, 1, 33, 50, 99, 100}) {
            x.slip(slip);
            int due = 10000;
            for (int n = 0; n <= 12; n++) {
                is("odds of " + n + " with slip " + slip, x.chance(n, true), due);
                due = due * (100 - slip) / 100;
            }
        }
        FourHands far = piece("hand of 0 at 1 reach 1 skill 9;note 5 at 0;note 1 at 1;note 2 at 11;beat 1;slip 100");
        is("those left over are none", far.chance(12, false), 2);
        is("beat 11 is the 11th", far.chance(11, false), 2);
        is("beat 11 is the 11th", far.chance(10, false), 1);
        is("the first", far.chance(1, false), 1);
        promise = 47;
        says("EXPECT: CHANCE of 12 TURNS times SLIP by 100, rounded down.");
        int[] slips = {0, 8, 9, 16, 17, 99, 100};
        int[] due = {0, 0, 1, 1, 2, 11, 12};
        for (int i = 0; i < slips.length; i++) {
            x.slip(slips[i]);
            is("expect with slip " + slips[i], x.expect(), due[i]);
        }
        promise = 25;
        says("PART: how many NOTES there are AHEAD by 12 TURNS that are left over in these.");
        for (int beat = 0; beat < 12; beat++) {
            FourHands y = piece(everyBeat(1), "beat " + beat);
            is("each beat once", y.part(), 12);
            for (int n = 0; n < 11; n++) y.strike(n, true);
            is("the last one", y.part(), 1);
            promise = 26;
            says("EASY: whether none is.");
            is("not easy", y.easy(), false);
            y.strike(11, true);
            is("easy", y.easy(), true);
            promise = 25;
        }
        FourHands walk = piece("hand of 0 at 1 reach 5 skill 9;note 6 at 0;note 11 at 1;note 1 at 2");
        is("the hand goes", walk.part(), 1);
        is("as it is now", walk.left(1), 2);
        promise = 56;
        says("AHEAD by N TURNS (0 to 60): as so many TURNS in which nothing slips (no DRAWS).");
        FourHands s = steady(9);
        s.slip(100);
        for (int n : new int[] {0, 1, 12, 59, 60}) is("tired ahead " + n, s.ahead(0, n, 1), n);
        is("at ahead 0", walk.ahead(0, 0, 0), 1);
        is("at ahead 1", walk.ahead(0, 1, 0), 6);
        is("at ahead 2", walk.ahead(0, 2, 0), 11);
    }

    private static void tires() {
        promise = 54;
        says("TIRES: the first N (0 to 60) AHEAD by which some HAND is TIRED by 50 at least; none.");
        for (int turns = 47; turns <= 52; turns++) is("tires behind " + turns, after(steady(9), turns).tires(), Math.max(0, 50 - turns));
        for (int beat = 0; beat < 12; beat++) {
            for (int without = 0; without <= 3; without++) {
                FourHands x = steady(9);
                add(x, "beat " + beat);
                for (int n = 0; n < without; n++) x.strike(5 * n % 12, true);
                int due = -1;
                int tired = 0;
                for (int n = 1; n <= 60 && due < 0; n++) {
                    boolean played = x.note((beat + n - 1) % 12, 3) == 0;
                    tired = played ? tired + 1 : Math.max(0, tired - 1);
                    if (tired >= 50) due = n;
                }
                is("from beat " + beat + " with " + without + " less", x.tires(), due);
            }
        }
        FourHands late = piece("hand of 0 at 1 reach 0 skill 9", everyBeat(1), "beat 11");
        late.strike(0, true);
        is("at the 60th", late.tires(), 60);
        FourHands later = piece("hand of 0 at 1 reach 0 skill 9;note 1 at 0 hard 4;note 1 at 1 hard 1;note 1 at 2;note 1 at 3;note 1 at 4;note 1 at 5;note 1 at 6;note 1 at 7");
        is("49 at most in 60, 50 by the 61st", later.tires(), -1);
        later.turn(1);
        is("by the 60th from here", later.tires(), 60);
        is("the other hand", piece("hand of 0 at 50 reach 0 skill 9;hand of 0 at 1 reach 0 skill 9", everyBeat(1)).tires(), 50);
    }

    private static void trials() {
        promise = 57;
        says("TRIAL of N TURNS (0 to 60) from now (draws, too; nothing stays): how many are SLIPPED then; how many LOST.");
        FourHands x = piece("hand of 0 at 1 reach 0 skill 9", everyBeat(1), "note 9 at 0;slip 100");
        rule(x, "take if 2 < 1");
        int[] turns = {0, 1, 12, 59, 60};
        int[] lost = {0, 1, 1, 5, 5};
        for (int i = 0; i < 5; i++) {
            is("slipped in " + turns[i], x.trial(turns[i], false), turns[i]);
            is("lost in " + turns[i], x.trial(turns[i], true), lost[i]);
        }
        x.turn(1);
        is("with those before", x.trial(0, false), 1);
        is("with those before", x.trial(60, false), 61);
        is("with those before", x.trial(12, true), 2);
        promise = 58;
        says("BOUNDS: the least and the greatest SLIPPED so from SEED 1, 2, .. 6.");
        is("with slip 100", x.bounds(60, false), 61);
        is("with slip 100", x.bounds(60, true), 61);
        is("0 turns", x.bounds(0, true), 1);
        for (int n = 1; n <= 7; n++) boundsOf(n);
    }

    /** Somewhere among these each of the six seeds is the one that counts, and one more at either end would be. */
    private static void boundsOf(int n) {
        FourHands y = steady(9);
        y.seed(7);
        for (int slip = 1; slip < 100; slip++) {
            y.slip(slip);
            int least = 99;
            int greatest = -1;
            for (int from = 1; from <= 6; from++) {
                int seed = from;
                int slips = 0;
                for (int i = 0; i < n; i++) {
                    seed = next(seed);
                    slips += draw(seed) < slip ? 1 : 0;
                }
                least = Math.min(least, slips);
                greatest = Math.max(greatest, slips);
            }
            is("least of " + n + " with slip " + slip, y.bounds(n, false), least);
            is("greatest of " + n + " with slip " + slip, y.bounds(n, true), greatest);
        }
    }

    // ---- the log

    private static void log() {
        promise = 60;
        says("THE LOG: the latest 60 NOTES that came");
        for (int turns = 1; turns <= 75; turns++) {
            FourHands x = steady(9);
            add(x, "page 7");
            after(x, turns);
            int rows = Math.min(60, turns);
            is("rows", x.count(12), rows);
            is("the latest", x.log(0, 1), (turns - 1) % 12);
            is("the page of the latest", x.log(0, 0), 7 + (turns - 1) / 12);
            is("the oldest", x.log(rows - 1, 1), (turns - rows) % 12);
            is("the page of the oldest", x.log(rows - 1, 0), 7 + (turns - rows) / 12);
            for (int what = 0; what < 4; what++) is("behind the oldest", x.log(rows, what), -2);
        }
        says("- 2 without");
        FourHands x = after(steady(9), 75);
        for (int ago : new int[] {Integer.MIN_VALUE, -1, 60, Integer.MAX_VALUE}) for (int what = 0; what < 4; what++) is("log(" + ago + ")", x.log(ago, what), -2);
        FourHands ends = piece("hand of 0 at 0 reach 0 skill 9;hand of 0 at 1 reach 0 skill 9;hand of 0 at 2 reach 0 skill 9;hand of 0 at 3 reach 0 skill 9;"
            + "hand of 0 at 4 reach 0 skill 9;hand of 0 at 63 reach 0 skill 9", everyBeat(50), "note 51 at 0;note 63 at 0;page 999;slip 100");
        ends.turn(1);
        int[] due = {999, 13, 5, 1};
        for (int what = 0; what < 4; what++) is("the last note, the last hand", ends.log(2, what), due[what]);
        is("of those left over none", ends.log(0, 2), -1);
        is("of those left over none", ends.log(1, 2), -1);
    }

    private static void shares() {
        promise = 7;
        says("SHARE of a HAND of the rows PLAYED in THE LOG, in hundredths, rounded down (0 without).");
        FourHands x = piece("hand of 0 at 1 reach 0 skill 9;hand of 0 at 2 reach 0 skill 9;hand of 1 at 9 reach 0 skill 9", everyBeat(1), "note 2 at 0;note 2 at 1");
        for (int hand = 0; hand < 3; hand++) is("without rows", x.hand(hand, 6), 0);
        x.slip(100);
        x.turn(12);
        for (int hand = 0; hand < 3; hand++) is("without rows played", x.hand(hand, 6), 0);
        x.slip(0);
        x.turn(1);
        is("1 of 2", x.hand(0, 6), 50);
        x.turn(2);
        is("3 of 5", x.hand(0, 6), 60);
        x.turn(1);
        is("4 of 6", x.hand(0, 6), 66);
        is("2 of 6", x.hand(1, 6), 33);
        is("0 of 6", x.hand(2, 6), 0);
        x.strike(12, true);
        x.strike(13, true);
        x.turn(57);
        is("1 of 60", x.hand(1, 6), 1);
        is("59 of 60", x.hand(0, 6), 98);
        is("the 60th row behind is of hand 1", x.log(59, 2) + 10 * x.log(58, 2), 1 + 10 * 0);
        x.turn(1);
        is("all", x.hand(0, 6), 100);
        is("rows that went are none", x.hand(1, 6), 0);
    }

    private static void led() {
        promise = 59;
        says("LED: how many rows of THE LOG are of a NOTE; the HAND of the latest (none).");
        FourHands x = steady(9);
        is("no row", x.led(0, false), 0);
        is("no row", x.led(0, true), -1);
        x.turn(60);
        is("five rows", x.led(0, false), 5);
        is("the hand", x.led(0, true), 0);
        x.strike(0, true);
        x.turn(1);
        is("five rows", x.led(0, false), 5);
        x.turn(1);
        is("one went", x.led(0, false), 4);
        is("one came, one stays to go", x.led(1, false), 6);
        for (int i = 0; i < 5; i++) x.turn(11);
        is("all went", x.led(0, false), 0);
        is("all went", x.led(0, true), -1);
        FourHands y = piece("hand of 0 at 1 reach 0 skill 9;note 1 at 0");
        y.turn(1);
        y.bind(0, true);
        y.turn(12);
        is("the latest is left over", y.led(0, true), -1);
        is("both rows count", y.led(0, false), 2);
        y.bind(0, false);
        y.turn(12);
        is("the latest has a hand", y.led(0, true), 0);
        FourHands z = piece("hand of 0 at 1 reach 0 skill 9;hand of 0 at 9 reach 0 skill 9;note 1 at 0;note 50 at 1");
        z.turn(2);
        z.put(1, 1);
        z.bind(0, true);
        z.turn(12);
        is("another hand, though rows of others came behind", z.led(0, true), 1);
        is("both rows count", z.led(0, false), 2);
        is("rows of others", z.led(1, false), 2);
    }

    // ---- acts undone and the image

    /** Six hands, fourteen notes, a law, rows of the log, a seed, and two acts. */
    private static FourHands played() {
        FourHands x = crowd(6, 14);
        rule(x, "take if low");
        x.slip(50);
        x.turn(30);
        x.seed(77);
        return x;
    }

    private static FourHands actedOn(Consumer<FourHands> act) {
        FourHands x = played();
        act.accept(x);
        return x;
    }

    /** Behind the act and one undo all is as it was, also where the act changed nothing. */
    private static void undoes(String what, Consumer<FourHands> act, boolean changes) {
        String before = look(played());
        FourHands behind = actedOn(act);
        is(what + " is one act", behind.count(13), 3);
        is(what + " changes more than the acts", !look(behind).replaceFirst(" 3 (?=\\d+,)", " 2 ").equals(before), changes);
        FourHands back = actedOn(act);
        back.seed(5);
        is("undo", back.undo(), true);
        is("all behind " + what + " undone", look(back), before);
    }

    private static void undone() {
        promise = 62;
        says("UNDONE: the latest ACT not undone yet .. TURNS of one call are one .. all is as ahead of it");
        undoes("turn(1)", x -> x.turn(1), true);
        undoes("turn(60)", x -> x.turn(60), true);
        undoes("put", x -> x.put(5, 1), true);
        undoes("put where it is", x -> x.put(5, x.hand(5, 1)), false);
        undoes("rest", x -> x.rest(0), true);
        undoes("bind", x -> x.bind(5, true), true);
        undoes("bind of none", x -> x.bind(5, false), false);
        undoes("strike", x -> x.strike(13, true), true);
        undoes("strike of none", x -> x.strike(13, false), false);
        undoes("shift", x -> x.shift(13, 11), true);
        undoes("slip", x -> x.slip(51), true);
        undoes("slip as it is", x -> x.slip(50), false);
        undoes("swap", x -> x.swap(0, 5), true);
    }

    private static void remembered() {
        promise = 62;
        says("12 are remembered");
        for (int acts = 0; acts <= 26; acts++) {
            FourHands x = crowd(1, 1);
            for (int i = 1; i <= acts; i++) x.put(0, i);
            int kept = Math.min(12, acts);
            is("acts", x.count(13), kept);
            for (int i = 1; i <= kept; i++) {
                is("undo " + i + " of " + acts, x.undo(), true);
                is("at", x.hand(0, 1), acts - i);
                is("acts", x.count(13), kept - i);
            }
            is("no more", x.undo(), false);
            is("at", x.hand(0, 1), acts - kept);
        }
        FourHands y = crowd(1, 1);
        for (int i = 1; i <= 12; i++) y.put(0, i);
        for (int i = 0; i < 5; i++) y.undo();
        for (int i = 21; i <= 26; i++) y.put(0, i);
        is("7 and 6 are 12 at most", y.count(13), 12);
        int[] at = {25, 24, 23, 22, 21, 7, 6, 5, 4, 3, 2, 1};
        for (int due : at) {
            is("undo", y.undo(), true);
            is("at", y.hand(0, 1), due);
        }
        is("no more", y.undo(), false);
        says("but for the TAPE, fault(), THE IMAGE");
        FourHands z = crowd(1, 1);
        z.put(0, 5);
        z.image();
        z.put(0, 6);
        wrongPiece(z, "beat 12", 5);
        tell(z, "slip 9");
        z.undo();
        is("fault", z.fault(), 5);
        is("the tape", z.end(6), true);
        z.undo();
        is("at", z.hand(0, 1), 0);
        is("the image stays", z.back(), true);
        is("at", z.hand(0, 1), 5);
        is("the tape", z.piece(), 3);
        is("slip", z.count(6), 9);
    }

    private static void forgotten() {
        promise = 62;
        says("A text, going back: none are remembered.");
        FourHands x = crowd(1, 1);
        x.image();
        x.put(0, 1);
        wrongPiece(x, "?", 0);
        wrongLaw(x, "?", 0);
        is("wrong texts forget nothing", x.count(13), 1);
        add(x, "");
        is("an empty text", x.count(13), 0);
        is("undo", x.undo(), false);
        x.put(0, 2);
        rule(x, "");
        is("an empty law", x.count(13), 0);
        is("undo", x.undo(), false);
        x.put(0, 3);
        x.back();
        is("going back", x.count(13), 0);
        is("undo", x.undo(), false);
        FourHands none = crowd(1, 1);
        none.put(0, 4);
        none.back();
        is("where there is no image, nothing happens", none.count(13), 1);
        none.seed(9);
        none.image();
        is("a seed and an image are no acts", none.count(13), 1);
        fails("put", INDEX, () -> none.put(0, 64));
        fails("turn", ARGUMENT, () -> none.turn(0));
        fails("slip", ARGUMENT, () -> none.slip(101));
        is("what is refused is none", none.count(13), 1);
        FourHands full = crowd(1, 1);
        for (int i = 0; i < 10; i++) add(full, "");
        full.put(0, 1);
        fails("a 13th text", UNSUPPORTED, () -> add(full, ""));
        is("a 13th text forgets nothing", full.count(13), 1);
    }

    private static void image() {
        promise = 64;
        says("THE IMAGE (one) of all may be kept, and gone back to (but for the TAPE, fault() and THE IMAGE itself).");
        FourHands x = new FourHands();
        is("none was kept", x.back(), false);
        x.image();
        add(x, "hand of 0 at 1 reach 1 skill 9;note 1 at 0;slip 50;beat 3;page 4");
        rule(x, "near 1");
        x.turn(20);
        x.seed(8);
        String rich = look(x);
        is("back", x.back(), true);
        is("a new object", look(x), look(new FourHands()));
        is("back again", x.back(), true);
        is("a new object", look(x), look(new FourHands()));
        is("the law is none", x.count(3), -1);
        FourHands y = new FourHands();
        add(y, "hand of 0 at 1 reach 1 skill 9;note 1 at 0;slip 50;beat 3;page 4");
        rule(y, "near 1");
        y.turn(20);
        y.seed(8);
        is("one recipe", look(y), rich);
        y.image();
        y.put(0, 60);
        y.image();
        y.put(0, 61);
        y.strike(0, true);
        rule(y, "far 9;far 8");
        wrongPiece(y, "beat 12", 5);
        tell(y, "slip 9");
        is("back", y.back(), true);
        is("the latest image", y.hand(0, 1), 60);
        is("reaches by its law", y.reaches(0, 0), 0);
        is("lines of its law", y.count(3), 1);
        is("it stands", y.note(0, 3), 0);
        is("fault", y.fault(), 5);
        is("the tape", y.piece(), 2);
        is("slip", y.count(6), 9);
        is("back", y.back(), true);
        is("slip", y.count(6), 50);
        is("texts", y.count(2), 1);
        promise = 63;
        says("THE IMAGE is kept.");
        FourHands z = crowd(1, 1);
        z.put(0, 7);
        String before = look(z);
        z.image();
        is("nothing else changes", look(z), before);
        z.undo();
        is("undo goes on", z.hand(0, 1), 0);
    }

    private static void counts() {
        promise = 65;
        says("NONE for another what.");
        FourHands x = crowd(6, 14);
        for (int what : new int[] {Integer.MIN_VALUE, -1, 14, Integer.MAX_VALUE}) is("count(" + what + ")", x.count(what), -1);
        says("0 HANDS, 1 NOTES, 2 texts of THE PIECE, 3 LINES of THE LAW (NONE without one)");
        int[] due = {6, 14, 2, -1, 0, 0, 0, 0, 0, 0, 0, (1 << 14) - 1, 0, 0};
        for (int what = 0; what < 14; what++) is("count(" + what + ")", x.count(what), due[what]);
        says("11 NOTES that are not STRUCK, as bits");
        x.strike(0, true);
        x.strike(13, true);
        is("count(11)", x.count(11), (1 << 13) - 2);
        is("struck ones are notes", x.count(1), 14);
        is("acts", x.count(13), 2);
        rule(x, "");
        is("a law of no lines", x.count(3), 0);
        rule(x, lines("take", 12));
        is("a law of 12", x.count(3), 12);
    }
}
