/** Each promise of the document by its number: what is ordinary, its edges, and wrong inputs. */
public final class PromisesTest extends Checks {
    /** Two hands, six notes: of beat 0 note 2 is left over, of beat 1 note 3, of beat 2 none. */
    private static final String DUET = "hand of 0 at 10 reach 5 skill 9;hand of 1 at 20 reach 5 skill 5;"
        + "note 12 at 0;note 15 at 0;note 18 at 0 hard 6;note 40 at 1 hard 2;note 12 at 2;note 24 at 2 hard 3";

    public static void main(String[] args) {
        texts();
        handsAndNotes();
        acts();
        beats();
        leftovers();
        tunes();
        guesses();
        players();
        odds();
        choices();
        looksAhead();
        logAndPast();
        report("PromisesTest");
    }

    private static void texts() {
        promise = 1;
        FourHands n = new FourHands();
        is("NONE", FourHands.NONE, -1);
        int[] first = {0, 0, 0, -1, 0, 0, 0, 0, 0, 0, 0, 0, 0, 0};
        for (int i = 0; i < first.length; i++) is("count(" + i + ")", n.count(i), first[i]);
        is("seed", n.seed(1), 1);

        promise = 2;
        FourHands x = new FourHands();
        for (int i = 1; i <= 20; i++) is("feed", x.feed(0x20202020, 0x20202020, 0x20202020, 0x20202020, 0x20202020), 20 * i);
        is("feed on a full tape", x.feed(0, 0, 0, 0, 0), -1);
        is("the tape after it", x.end(401), false);
        is("the tape after it", x.end(400), true);
        x.end(381);
        is("feed behind 381 bytes", x.feed(0, 0, 0, 0, 0), -1);
        x.end(380);
        is("feed behind 380 bytes", x.feed(0x20202020, 0x20202020, 0x20202020, 0x20202020, 0x2020207b), 400);
        fails("piece", ARGUMENT, x::piece);
        is("the last byte", x.fault(), 399);
        x.feed(0x7b000000, 0, 0, 0, 0);
        fails("piece", ARGUMENT, x::piece);
        is("the highest byte is the first", x.fault(), 0);

        promise = 3;
        x = new FourHands();
        is("end(0) of none", x.end(0), true);
        is("end(1) of none", x.end(1), false);
        is("end(-1)", x.end(-1), false);
        x.feed(0x70616765, 0x20313278, 0, 0, 0);
        is("end(21)", x.end(21), false);
        is("end(20)", x.end(20), true);
        is("end(7)", x.end(7), true);
        is("end(8)", x.end(8), false);
        is("end(MIN)", x.end(Integer.MIN_VALUE), false);
        x.piece();
        is("page 12 alone was read", x.count(5), 12);
        is("the tape is used up", x.end(1), false);

        promise = 4;
        pieces();
        promise = 5;
        laws();

        promise = 6;
        x = new FourHands();
        is("fault ahead of any", x.fault(), -1);
        wrongPiece(x, " hand", 5);
        tellBytes(x, 99);
        fails("next", ARGUMENT, x::next);
        is("fault after a tape that is no text", x.fault(), 5);
        is("piece", add(x, ""), 1);
        is("fault of a right one", x.fault(), -1);
        wrongLaw(x, "far", 3);
        is("law", rule(x, "   "), 0);
        is("fault of a right one", x.fault(), -1);
    }

    private static void pieces() {
        FourHands x = new FourHands();
        is("no line", add(x, "  "), 1);
        is("blanks", add(x, "  hand of 2at 63 reach 40skill9  ; note63 at 11hard 9 ;slip 100;beat 11;page 999 "), 2);
        int[] h = {2, 63, 40, 9, 0, 0};
        for (int i = 0; i < h.length; i++) is("hand(0, " + i + ")", x.hand(0, i), h[i]);
        int[] t = {11, 63, 9, 0};
        for (int i = 0; i < t.length; i++) is("note(0, " + i + ")", x.note(0, i), t[i]);
        is("beat", x.count(4), 11);
        is("page", x.count(5), 999);
        is("slip", x.count(6), 100);
        is("later lines count", add(x, "slip 5;slip 007;note 1 at 11"), 3);
        is("slip", x.count(6), 7);
        is("hard, if not told", x.note(1, 2), 0);
        wrongPiece(x, "note 63 at 11", 11);
        wrongPiece(x, "note 2 at 3;note 2 at  3 hard 5", 23);
        wrongPiece(x, "slip 1;page", 11);
        is("of a wrong text nothing stays", x.count(6), 7);
        is("texts", x.count(2), 3);
        wrongPiece(x, "slip 0001", 5);
        wrongPiece(x, "slip 101", 5);
        wrongPiece(x, "page 1000", 5);
        wrongPiece(x, "beat 12", 5);
        wrongPiece(x, "hand of 3 at 1 reach 1 skill 1", 8);
        wrongPiece(x, "hand of 1 at 64 reach 1 skill 1", 13);
        wrongPiece(x, "hand of 1 at 1 reach 41 skill 1", 21);
        wrongPiece(x, "hand of 1 at 1 reach 1 skill 10", 29);
        wrongPiece(x, "hand of 1 at 1 reach 1 skill 1 hard 1", 31);
        wrongPiece(x, "note 64 at 1", 5);
        wrongPiece(x, "note 1 at 12", 10);
        wrongPiece(x, "note 1 at 1 hard 10", 17);
        wrongPiece(x, "note 1 at 1 hard ", 17);
        wrongPiece(x, "notes 1 at 1", 0);
        wrongPiece(x, "noteat 1 at 1", 0);
        wrongPiece(x, "Note 1 at 1", 0);
        wrongPiece(x, ";slip 1", 0);
        wrongPiece(x, "slip 1;;slip 2", 7);
        wrongPiece(x, "slip 1; ", 8);
        wrongPiece(x, "slip 1,slip 2", 6);
        wrongPiece(x, "slip\t1", 4);
        wrongPiece(x, "far 1", 0);
        String[] whole = {"hand of 1 at 1 reach 1 skill 1", "note 3 at 3 hard 1", "slip 1", "beat 1", "page 1"};
        for (String line : whole) {
            for (int end = 1; end < line.length(); end++) {
                if (line.charAt(end) == ' ' && !line.startsWith("note 3 at 3") || end < 9 && line.charAt(end) == ' ') {
                    int more = Character.isDigit(line.charAt(end - 1)) ? end : end + 1;
                    wrongPiece(x, line.substring(0, more), more);
                    wrongPiece(x, line.substring(0, more) + ";slip 1", more);
                }
            }
        }
        is("14 lines", add(x, lines("slip 3", 14)), 4);
        wrongPiece(x, lines("slip 3", 15), 14 * 7);
        wrongPiece(x, lines("slip 3", 14) + ";  ", 14 * 7 + 2);
        is("6 hands", add(x, lines("hand of 0 at 1 reach 1 skill 1", 5)), 5);
        wrongPiece(x, "slip 9; hand of 0 at 1 reach 1 skill 1", 8);
        StringBuilder notes = new StringBuilder("note 0 at 0");
        for (int i = 1; i < 12; i++) notes.append(";note ").append(i).append(" at 0");
        is("14 notes", add(x, notes.toString()), 6);
        is("14 notes", x.count(1), 14);
        wrongPiece(x, "slip 1;note 50 at 5", 7);
        FourHands s = piece("note 5 at 5");
        s.strike(0, true);
        is("where a note is struck out another may stand", add(s, "note 5 at 5"), 2);
        for (int i = 7; i <= 12; i++) is("text " + i, add(x, ""), i);
        wrongPiece(x, "slip", 4);
        fails("a 13th text", UNSUPPORTED, () -> add(x, "slip 77"));
        is("fault of a right one", x.fault(), -1);
        is("the tape is used up", x.end(1), false);
        is("slip", x.count(6), 3);
        is("texts", x.count(2), 12);
    }

    private static void laws() {
        FourHands x = piece("hand of 1 at 30 reach 10 skill 9;note 31 at 2 hard 4;note 40 at 3;page 7");
        is("no law", x.count(3), -1);
        is("law", rule(x, " far 5 ;near 3 if low; take if hard>3"), 3);
        is("lines", x.count(3), 3);
        is("reaches", x.reaches(0, 0), 12);
        wrongLaw(x, "far 1;far", 9);
        is("the old law stays", x.reaches(0, 0), 12);
        is("the old law stays", x.count(3), 3);
        is("in place of it", rule(x, "near 40"), 1);
        is("0 at least", x.reaches(0, 1), 0);
        is("12 lines", rule(x, lines("far 1", 12)), 12);
        is("12 lines", x.reaches(0, 1), 22);
        wrongLaw(x, lines("far 1", 13), 12 * 6);
        wrongLaw(x, "far 41", 4);
        wrongLaw(x, "far 0001", 4);
        wrongLaw(x, "far if low", 4);
        wrongLaw(x, "take 1", 5);
        wrongLaw(x, "slip 1", 0);
        wrongLaw(x, "take if", 7);
        wrongLaw(x, "take iflow", 5);
        wrongLaw(x, "take if low high", 12);
        wrongLaw(x, "take if low and", 15);
        wrongLaw(x, "take if low or or low", 15);
        wrongLaw(x, "take if low + 1 < 2", 12);
        wrongLaw(x, "take if 1 + low < 2", 12);
        wrongLaw(x, "take if 1 2", 10);
        wrongLaw(x, "take if 1 < 2 < 3", 14);
        wrongLaw(x, "take if 1 = 2", 10);
        wrongLaw(x, "take if 1000 > 2", 8);
        wrongLaw(x, "take if (low", 12);
        wrongLaw(x, "take if low)", 11);
        wrongLaw(x, "take if (1) < 2", 10);
        wrongLaw(x, "take if not", 11);
        wrongLaw(x, "take if (", 9);
        wrongLaw(x, "take if 1 <", 11);
        wrongLaw(x, "take if 1 < ;take", 12);
        wrongLaw(x, "take if not ;take", 12);
        wrongLaw(x, "take if 1 + ;take", 12);
        wrongLaw(x, "take if key", 11);
        wrongLaw(x, "far ;take", 4);
        wrongLaw(x, "take;", 5);
        wrongLaw(x, "take if low or ;take", 15);
        wrongLaw(x, "take if (low and ;take", 17);
        wrongLaw(x, "take if ((((((( low", 14);
        wrongLaw(x, "take if not(not(not(not left", 20);
        is("6 deep", rule(x, "take if ((((((low)))))) and not not not not not not left"), 1);
        String[] hold = {"hand < 1", "key > 30 and key < 32", "hard + 1 > 4 and hard < 5", "tired < 1", "player > 0 and player < 2",
            "beat > 1 and beat < 3", "page > 6 and page < 8", "low", "not left", "left or low", "left and left or low",
            "low or left and left", "not (left or not low)", "1 + 2 + 3 > 5", "999 > 998", "not not low", "not left and low"};
        for (String c : hold) {
            rule(x, "far 1 if " + c);
            is("far 1 if " + c, x.reaches(0, 0), 11);
            rule(x, "far 1 if not (" + c + ")");
            is("far 1 if not (" + c + ")", x.reaches(0, 0), 10);
        }
        rule(x, "take if hand > 5 and hand < 7 and tired < 1 and player > 2 and player < 4 and not left and key > 30");
        is("the third one", x.note(0, 4), 1);
        rule(x, "far 9 if left");
        x.put(0, 31);
        is("the key itself is not left", x.reaches(0, 0), 10);
        x.put(0, 32);
        is("left", x.reaches(0, 0), 19);
        rule(x, "take if left");
        is("the third one has nothing left of it", x.note(0, 4), 0);
        rule(x, "take if low;take if key > 63");
        is("some take line", x.note(0, 4), 1);
        is("no take line", x.note(1, 4), 0);
        rule(x, "far 3");
        is("without take lines", x.note(1, 4), 1);
        x.turn(1);
        x.undo();
        x.turn(1);
        rule(x, "");
        is("a text: no acts are remembered", x.undo(), false);
        is("no lines", x.count(3), 0);
    }

    private static void handsAndNotes() {
        promise = 7;
        FourHands x = piece(DUET);
        int[] h = {1, 20, 5, 5, 0, 0, 0, 2};
        for (int i = 0; i < h.length; i++) is("hand(1, " + i + ")", x.hand(1, i), h[i]);
        index("hand(2, 0)", () -> x.hand(2, 0));
        index("hand(-1, 9)", () -> x.hand(-1, 9));
        fails("hand(0, 8)", ELEMENT, () -> x.hand(0, 8));
        fails("hand(0, -1)", ELEMENT, () -> x.hand(0, -1));
        x.bind(1, true);
        is("bound", x.hand(1, 5), 1);
        is("a bound one is not missed", x.hand(1, 7), 0);
        is("missed of hand 0", x.hand(0, 7), 2);
        x.bind(1, false);
        x.turn(3);
        is("share of hand 0", x.hand(0, 6), 66);
        x.bind(1, true);
        x.turn(12);
        is("share of hand 0", x.hand(0, 6), 80);
        is("share of hand 1", x.hand(1, 6), 20);
        x.slip(100);
        x.turn(12);
        is("share is of those played alone", x.hand(0, 6), 80);

        promise = 8;
        FourHands y = piece(DUET);
        int[] n = {0, 18, 6, 0, 1};
        for (int i = 0; i < n.length; i++) is("note(2, " + i + ")", y.note(2, i), n[i]);
        y.strike(2, true);
        is("struck", y.note(2, 3), 1);
        rule(y, "take if hard < 6");
        is("not taken", y.note(2, 4), 0);
        is("taken", y.note(5, 4), 1);
        index("note(6, 0)", () -> y.note(6, 0));
        index("note(-1, 7)", () -> y.note(-1, 7));
        fails("note(0, 5)", ELEMENT, () -> y.note(0, 5));
        fails("note(0, -1)", ELEMENT, () -> y.note(0, -1));

        promise = 9;
        FourHands z = piece(DUET);
        is("as far as it reaches", z.can(0, 1), true);
        is("farther", z.can(0, 2), false);
        is("too hard", z.can(1, 2), false);
        is("can", z.can(1, 1), true);
        z.strike(1, true);
        is("struck", z.can(1, 1), false);
        z.bind(0, true);
        is("bound", z.can(0, 0), false);
        indexOf("can(2, 0)", () -> z.can(2, 0));
        indexOf("can(0, 6)", () -> z.can(0, 6));
        FourHands tired = piece("hand of 0 at 5 reach 1 skill 2;note 5 at 0 hard 2;note 5 at 1 hard 1");
        tired.turn(12 * 3);
        is("rested", tired.hand(0, 4), 0);
        add(tired, "note 5 at 2 hard 2;note 5 at 3");
        tired.turn(4);
        is("tired", tired.hand(0, 4), 9);
        is("can", tired.can(0, 0), true);
        tired.shift(3, 4);
        tired.turn(1);
        is("tired", tired.hand(0, 4), 10);
        is("skill less tired by 10", tired.can(0, 0), false);
        is("skill less tired by 10", tired.can(0, 1), true);

        promise = 10;
        FourHands r = piece(DUET);
        is("reaches without a law", r.reaches(0, 3), 5);
        rule(r, "far 7 if not left;near 2 if key > 14;near 4 if left");
        is("far", r.reaches(0, 0), 12);
        is("far and near", r.reaches(0, 1), 10);
        is("near", r.reaches(1, 1), 0);
        r.strike(1, true);
        is("of a struck one too", r.reaches(0, 1), 10);
        index("reaches(0, 6)", () -> r.reaches(0, 6));
        index("reaches(2, 0)", () -> r.reaches(2, 0));
        index("reaches(-1, 0)", () -> r.reaches(-1, 0));
    }

    private static void acts() {
        promise = 11;
        FourHands x = piece(DUET);
        is("turn(1)", x.turn(1), 1);
        int[] h = {12, 1, 15, 1};
        for (int i = 0; i < 4; i++) is("hand " + i / 2, x.hand(i / 2, i % 2 == 0 ? 1 : 4), h[i]);
        is("turn(2)", x.turn(2), 2);
        is("played", x.count(7), 3);
        is("taken", x.count(9), 3);
        is("page", x.count(5), 0);
        is("turn(9)", x.turn(9), 0);
        is("page", x.count(5), 1);
        is("beat", x.count(4), 0);
        is("eased", x.hand(0, 4), 0);
        argument("turn(0)", () -> x.turn(0));
        argument("turn(61)", () -> x.turn(61));
        argument("turn(-1)", () -> x.turn(-1));
        is("turn(60)", x.turn(60), 15);
        is("page", x.count(5), 6);
        is("acts", x.count(13), 4);
        FourHands slips = piece("hand of 0 at 5 reach 9 skill 9;note 5 at 0 hard 8;slip 100");
        rule(slips, "take if low and not low");
        slips.turn(1);
        is("slipped", slips.count(8), 1);
        is("tired all the same", slips.hand(0, 4), 9);
        int seed = slips.seed(1);
        is("one draw", seed, 1103515245 + 12345);
        slips.slip((seed >>> 16 & 0x7fff) % 100);
        slips.turn(12);
        is("the draw is not below slip", slips.count(7), 1);
        slips.bind(0, true);
        slips.turn(12);
        is("lost", slips.count(10), 1);
        is("no draw for it", slips.seed(0), seed);
        FourHands most = piece("hand of 0 at 5 reach 9 skill 9;note 5 at 0");
        for (int i = 0; i < 30; i++) most.turn(60);
        is("page", most.count(5), 150);
        FourHands lost = piece("note 1 at 0;note 2 at 0;note 3 at 0;note 4 at 0;note 5 at 0;note 6 at 0;note 7 at 0;"
            + "note 8 at 0;note 9 at 0;note 10 at 0;note 11 at 0;note 12 at 0;note 13 at 0;note 14 at 0");
        for (int i = 0; i < 150; i++) lost.turn(60);
        is("9999 at most", lost.count(9), 9999);

        promise = 12;
        FourHands y = piece(DUET);
        is("put", y.put(0, 63), 10);
        is("put", y.put(0, 0), 63);
        is("at", y.hand(0, 1), 0);
        index("put(0, 64)", () -> y.put(0, 64));
        index("put(0, -1)", () -> y.put(0, -1));
        index("put(2, 0)", () -> y.put(2, 0));
        is("an act each", y.count(13), 2);

        promise = 13;
        y.put(0, 10);
        y.turn(3);
        is("rest", y.rest(0), 1);
        is("tired", y.hand(0, 4), 0);
        is("rest", y.rest(0), 0);
        index("rest(2)", () -> y.rest(2));

        promise = 14;
        is("bind", y.bind(0, true), true);
        is("bind again", y.bind(0, true), false);
        is("unbind", y.bind(0, false), true);
        is("unbind again", y.bind(0, false), false);
        is("bound", y.hand(0, 5), 0);
        is("each is an act", y.count(13), 10);
        indexOf("bind(-1)", () -> y.bind(-1, true));
        indexOf("bind(2)", () -> y.bind(2, false));

        promise = 15;
        FourHands z = piece(DUET);
        is("strike", z.strike(0, true), true);
        is("strike again", z.strike(0, true), false);
        is("of", z.of(0), 6);
        is("put where another one stands", z.shift(0, 2), 0);
        fails("stands again", STATE, () -> z.strike(0, false));
        z.shift(4, 0);
        is("stands again", z.strike(0, false), true);
        is("stands already", z.strike(0, false), false);
        indexOf("strike(6)", () -> z.strike(6, true));
        indexOf("strike(-1)", () -> z.strike(-1, true));

        promise = 16;
        FourHands s = piece(DUET);
        is("shift", s.shift(3, 11), 1);
        is("beat", s.note(3, 0), 11);
        argument("the same beat", () -> s.shift(3, 11));
        fails("another one of that key", STATE, () -> s.shift(0, 2));
        index("shift(0, 12)", () -> s.shift(0, 12));
        index("shift(0, -1)", () -> s.shift(0, -1));
        index("shift(6, 0)", () -> s.shift(6, 0));
        s.strike(4, true);
        is("another one is struck", s.shift(0, 2), 0);

        promise = 17;
        is("slip", s.slip(100), 0);
        is("slip", s.slip(0), 100);
        argument("slip(101)", () -> s.slip(101));
        argument("slip(-1)", () -> s.slip(-1));

        promise = 18;
        s.swap(0, 1);
        is("player", s.hand(0, 0), 1);
        is("player", s.hand(1, 0), 0);
        fails("one hand", ARGUMENT, () -> s.swap(0, 0));
        fails("no hand", INDEX, () -> s.swap(0, 2));
        fails("no hand", INDEX, () -> s.swap(-1, -1));
        add(s, "hand of 1 at 1 reach 1 skill 1");
        fails("one player", ARGUMENT, () -> s.swap(0, 2));
    }

    private static void beats() {
        FourHands x = piece(DUET);
        promise = 19;
        int[] of = {7, 8, 48, 0};
        for (int i = 0; i < 4; i++) is("of(" + i + ")", x.of(i), of[i]);
        index("of(12)", () -> x.of(12));
        index("of(-1)", () -> x.of(-1));

        promise = 20;
        int[] holds = {0, 1, -1, -1, 4, 5};
        for (int i = 0; i < 6; i++) is("holds " + i, x.holds(i / 2, i % 2), holds[i]);
        index("holds(0, 2)", () -> x.holds(0, 2));
        index("holds(12, 0)", () -> x.holds(12, 0));
        FourHands even = piece("hand of 0 at 10 reach 9 skill 9;hand of 0 at 12 reach 9 skill 9;note 14 at 0;note 15 at 0;note 11 at 1;note 12 at 2;note 10 at 2");
        is("both ways are as far: the first note has the least hand", even.holds(0, 0), 0);
        is("the other one", even.holds(0, 1), 1);
        is("go", even.go(0), 7);
        is("as far for both", even.holds(1, 0), 2);
        is("the least together", even.holds(2, 0), 4);
        is("the least together", even.holds(2, 1), 3);
        FourHands more = piece("hand of 0 at 10 reach 1 skill 9;hand of 0 at 10 reach 30 skill 9;note 10 at 0;note 40 at 0;note 11 at 1;note 9 at 1;note 10 at 1");
        is("as many as can be", more.left(0), 0);
        is("go", more.go(0), 30);
        is("the least go", more.go(1), 1);
        is("of these the first", more.left(1), 8);

        promise = 21;
        int[] left = {4, 8, 0, 0};
        for (int i = 0; i < 4; i++) is("left(" + i + ")", x.left(i), left[i]);
        index("left(-1)", () -> x.left(-1));
        index("left(12)", () -> x.left(12));

        promise = 22;
        int[] go = {7, 0, 6, 0};
        for (int i = 0; i < 4; i++) is("go(" + i + ")", x.go(i), go[i]);
        index("go(12)", () -> x.go(12));

        promise = 23;
        is("third", x.third(0), 4);
        rule(x, "take if hard > 3");
        is("third", x.third(0), 4);
        is("third", x.third(1), 0);
        index("third(12)", () -> x.third(12));

        promise = 24;
        is("full", x.full(), 0);
        x.strike(0, true);
        is("of several the least", x.full(), 0);
        x.strike(1, true);
        is("full", x.full(), 2);
        for (int i = 0; i < 6; i++) x.strike(i, true);
        is("without notes", x.full(), -1);

        promise = 25;
        FourHands y = piece(DUET);
        is("part", y.part(), 3);
        is("now none is left of beat 2", y.left(2), 0);
        y.turn(1);
        is("12 turns", y.part(), 3);
        FourHands last = piece("note 1 at 11");
        is("12 turns", last.part(), 1);

        promise = 26;
        is("easy", y.easy(), false);
        FourHands e = piece("hand of 0 at 10 reach 5 skill 9;note 10 at 5");
        is("easy", e.easy(), true);
        is("easy without notes", new FourHands().easy(), true);

        promise = 27;
        FourHands w = piece("note 10 at 0;note 20 at 0;note 30 at 0;note 31 at 0");
        is("r 0", w.hands(0, 0), 4);
        is("r 4", w.hands(0, 4), 3);
        is("r 5", w.hands(0, 5), 2);
        is("r 10", w.hands(0, 10), 2);
        is("r 11", w.hands(0, 11), 1);
        is("r 40", w.hands(0, 40), 1);
        is("without notes", w.hands(1, 3), 0);
        is("keys 0 and 63", piece("note 0 at 0;note 63 at 0").hands(0, 31), 2);
        is("keys 0 and 63", piece("note 0 at 0;note 63 at 0").hands(0, 32), 1);
        argument("r 41", () -> w.hands(0, 41));
        argument("r -1", () -> w.hands(0, -1));
        index("beat 12", () -> w.hands(12, 41));

        promise = 28;
        is("needed", w.needed(), 4);
        w.strike(0, true);
        is("needed", w.needed(), 3);
        is("needed of none", new FourHands().needed(), 0);
    }

    private static void leftovers() {
        promise = 29;
        FourHands x = piece(DUET);
        is("of several the least", x.missed(), 0);
        x.strike(4, true);
        is("missed", x.missed(), 1);
        is("without hands", new FourHands().missed(), -1);
        x.bind(1, true);
        is("missed of a bound one is 0", x.missed(), 0);
        x.bind(0, true);
        is("none is missed: the least", x.missed(), 0);

        promise = 30;
        is("spare", x.spare(), 3);
        x.bind(0, false);
        is("spare", x.spare(), 2);
        is("without hands", new FourHands().spare(), 0);
        FourHands pair = piece("hand of 0 at 10 reach 5 skill 9;hand of 1 at 11 reach 5 skill 9;note 10 at 0");
        is("each alone", pair.spare(), 3);

        promise = 31;
        FourHands b = piece("note 40 at 0;note 50 at 1;note 60 at 1 hard 9");
        is("best", b.best(), 42);
        b.strike(0, true);
        is("best", b.best(), 42);
        is("without notes", new FourHands().best(), 0);
        rule(b, "near 8 if hand > 0 or player < 2 or tired > 0;near 8 if left");
        is("by the law", b.best(), 42);
        add(b, lines("hand of 0 at 0 reach 0 skill 0", 6));
        is("a seventh one", b.best(), 50);

        promise = 32;
        FourHands c = piece(DUET);
        is("clean", c.clean(), 12);
        c.bind(0, true);
        is("clean", c.clean(), 1 + 4 + 8 + 16);
        FourHands one = piece("hand of 0 at 10 reach 5 skill 9;note 10 at 0;note 11 at 0;note 12 at 0");
        is("the least as bits", one.clean(), 3);
        is("nothing", new FourHands().clean(), 0);

        promise = 33;
        FourHands s = piece("hand of 0 at 10 reach 5 skill 9;note 10 at 3;note 11 at 3;note 11 at 0;note 50 at 3");
        is("better", s.better(0), 1);
        is("no other note of that key", s.better(1), 1);
        is("its own one, if none is better", s.better(3), 3);
        is("its own one, if none is better", s.better(2), 0);
        rule(s, "near 40 if beat < 5");
        is("by the law of that beat", s.better(1), 5);
        s.strike(0, true);
        fails("struck", STATE, () -> s.better(0));
        is("beat 0", piece("hand of 0 at 10 reach 5 skill 9;note 10 at 3;note 11 at 3").better(0), 0);
        index("better(4)", () -> s.better(4));
        index("better(-1)", () -> s.better(-1));
    }

    private static void tunes() {
        FourHands x = piece("note 30 at 1;note 18 at 1;note 40 at 3;note 30 at 4;note 20 at 5;note 30 at 6;note 20 at 7;note 42 at 7;note 30 at 9");
        promise = 34;
        is("highest", x.tune(1, true), 30);
        is("lowest", x.tune(1, false), 18);
        is("none", x.tune(0, true), -1);
        index("tune(12)", () -> x.tune(12, true));
        index("tune(-1)", () -> x.tune(-1, false));

        promise = 35;
        is("10", x.steps(10), 2);
        is("-10", x.steps(-10), 2);
        is("12", x.steps(12), 1);
        is("-12", x.steps(-12), 1);
        is("0", x.steps(0), 0);
        is("MIN", x.steps(Integer.MIN_VALUE), 0);

        promise = 36;
        is("none told: the most often", x.next(), 30);
        int[][] told = {{30, 20}, {40, 30}, {20, 30}, {30, 40, 30, 20}, {30, 40, 30}, {42, 30}, {63, 30, 20}, {1, 30}};
        x.strike(7, true);
        int[] due = {30, 20, 20, 30, 20, 20, 30, 20};
        for (int i = 0; i < told.length; i++) {
            tellBytes(x, told[i]);
            is("next " + i, x.next(), due[i]);
        }
        tellBytes(x, new int[20]);
        is("20 told", x.next(), 30);
        tellBytes(x, new int[21]);
        fails("21 told", ARGUMENT, x::next);
        is("the tape is used up", x.end(1), false);
        tellBytes(x, 30, 64);
        fails("no key", ARGUMENT, x::next);
        is("without a tune", new FourHands().next(), -1);
        is("a tune of one", piece("note 9 at 9").next(), 9);
        FourHands u = piece("note 5 at 0;note 9 at 1;note 5 at 2;note 7 at 3;note 4 at 4;note 9 at 5;note 6 at 6");
        int[][] rows = {{}, {5}, {9}, {4, 9}, {5, 9}, {3, 9}, {7}, {6}, {5, 9, 5}};
        int[] next = {5, 7, 5, 6, 5, 5, 4, 5, 7};
        for (int i = 0; i < rows.length; i++) {
            tellBytes(u, rows[i]);
            is("next of tune u " + i, u.next(), next[i]);
        }

        promise = 37;
        FourHands y = piece("note 0 at 0;note 12 at 0;note 24 at 0;note 60 at 0;note 61 at 0;note 48 at 1;note 36 at 1;note 5 at 2;note 17 at 3");
        is("octaves", y.octaves(), 7);
        y.strike(0, true);
        is("octaves", y.octaves(), 4);

        promise = 38;
        FourHands z = piece("note 0 at 4;note 1 at 4;note 2 at 4;note 3 at 4;note 4 at 4;note 5 at 4;note 6 at 4;note 0 at 6;note 1 at 6;note 2 at 6;note 3 at 6;note 4 at 6;note 5 at 6");
        is("sevens", z.sevens(), 16);
        z.strike(0, true);
        is("six", z.sevens(), 0);
        is("beat 0", piece("note 0 at 0;note 1 at 0;note 2 at 0;note 3 at 0;note 4 at 0;note 5 at 0;note 6 at 0;note 7 at 0").sevens(), 1);

        promise = 39;
        is("like", z.like(), 0);
        z.strike(6, true);
        z.strike(7, true);
        is("like", z.like(), 1);
        is("some keys", new FourHands().like(), 0);
        is("beats beside each other", piece("note 1 at 10;note 1 at 11;note 2 at 11;note 2 at 10").like(), 1);
        is("pairs", piece("note 1 at 0;note 1 at 5;note 1 at 11;note 2 at 3").like(), 3);
    }

    private static void guesses() {
        promise = 40;
        FourHands x = piece("note 0 at 0 hard 5;note 63 at 0;note 20 at 0 hard 9");
        is("none told", x.whose(false), 360);
        is("none told", x.whose(true), 1);
        int[][] told = {{0, 1}, {0, 0}, {0, 1, 1, 1}, {0, 1, 2, 0}, {0, 1, 0, 0}, {2, 1, 0, 0, 1, 0}};
        int[] many = {48, 312, 1, 12, 0, 142};
        int[] narrow = {1, 1, 8, 1, -1, 1};
        x.strike(0, true);
        for (int i = 0; i < told.length; i++) {
            tellBytes(x, told[i]);
            is("whose " + i, x.whose(false), many[i]);
            tellBytes(x, told[i]);
            is("narrow " + i, x.whose(true), narrow[i]);
        }
        tellBytes(x, 3, 1);
        fails("no such note", ARGUMENT, () -> x.whose(false));
        tellBytes(x, 0, 2);
        fails("neither 1 nor 0", ARGUMENT, () -> x.whose(false));
        tellBytes(x, 0, 1, 0);
        fails("half a row", ARGUMENT, () -> x.whose(true));
        tellBytes(x, new int[40]);
        is("40 bytes", x.whose(false), 312);
        tellBytes(x, new int[42]);
        fails("42 bytes", ARGUMENT, () -> x.whose(false));
        is("the tape is used up", x.end(1), false);

        promise = 41;
        is("ask", x.ask(), 2);
        tellBytes(x, 2, 1);
        is("ask", x.ask(), 0);
        tellBytes(x, 0, 1, 1, 1);
        is("one that fits", x.ask(), -1);
        is("without notes", new FourHands().ask(), -1);
        tellBytes(x, 3, 0);
        fails("no such note", ARGUMENT, x::ask);
        tellBytes(x, 0);
        fails("half a row", ARGUMENT, x::ask);
        is("the tape is used up", x.end(1), false);
        is("of several the least", piece("note 1 at 0;note 1 at 1").ask(), 0);
        FourHands y = piece("note 0 at 0;note 63 at 0 hard 9;note 30 at 0 hard 9;note 30 at 1 hard 4");
        is("160 and 200 against 80 and 280", y.ask(), 2);
        tellBytes(y, 2, 0);
        is("ask", y.ask(), 1);
    }

    private static void players() {
        promise = 42;
        FourHands x = piece("hand of 0 at 10 reach 2 skill 9;hand of 0 at 20 reach 2 skill 9;hand of 1 at 40 reach 2 skill 9;"
            + "note 10 at 0;note 10 at 1;note 20 at 0;note 40 at 0;note 20 at 2;note 20 at 3;note 10 at 4");
        is("loads 6 and 1: 6 less 3 and 1 either way", x.trade(0, 1), 6 * 0 + 2);
        is("the other way round", x.trade(1, 0), 6 * 2 + 0);
        is("no hands", x.trade(0, 2), -1);
        argument("one player", () -> x.trade(1, 1));
        index("trade(0, 3)", () -> x.trade(0, 3));
        index("trade(3, 3)", () -> x.trade(3, 3));
        index("trade(-1, 0)", () -> x.trade(-1, 0));
        x.swap(0, 2);
        is("none is better", x.trade(0, 1), -1);
        FourHands l = piece("hand of 0 at 10 reach 2 skill 9;hand of 1 at 20 reach 2 skill 9;note 10 at 0;note 11 at 1;note 20 at 0");
        is("as unlike as now", l.trade(0, 1), -1);
        rule(l, "near 3 if player > 0 and key < 11");
        is("by the law of the other player", l.trade(0, 1), -1);
        rule(l, "near 3 if beat > 0 and player > 0");
        is("loads 1 and 1 then", l.trade(0, 1), 1);

        promise = 43;
        FourHands y = piece(DUET);
        is("load(0)", y.load(0), 2);
        is("load(1)", y.load(1), 2);
        is("load(2)", y.load(2), 0);
        y.bind(0, true);
        is("load(0)", y.load(0), 0);
        index("load(3)", () -> y.load(3));
        index("load(-1)", () -> y.load(-1));

        promise = 44;
        FourHands s = piece("hand of 0 at 10 reach 9 skill 9;hand of 1 at 12 reach 9 skill 9;hand of 1 at 40 reach 1 skill 9;note 10 at 0;note 12 at 0;note 10 at 1;note 21 at 1;note 40 at 1");
        is("each can that of the other one", s.sure(0, 1, 0), false);
        is("only one of them can", s.sure(0, 1, 1), true);
        is("one has none", s.sure(0, 2, 0), false);
        is("neither can", s.sure(1, 2, 1), true);
        indexOf("hand 3", () -> s.sure(0, 3, 0));
        indexOf("beat 12", () -> s.sure(0, 0, 12));
        indexOf("hand -1", () -> s.sure(-1, -1, 0));
        fails("one hand", ARGUMENT, () -> s.sure(1, 1, 0));

        promise = 45;
        is("doubt(0)", s.doubt(0), 1);
        is("doubt(1)", s.doubt(1), 0);
        is("doubt(2)", s.doubt(2), 0);
        index("doubt(12)", () -> s.doubt(12));
    }

    private static void odds() {
        promise = 46;
        FourHands x = piece(DUET);
        is("0 turns", x.chance(0, false), 0);
        is("0 turns", x.chance(0, true), 10000);
        is("1 turn", x.chance(1, false), 2);
        is("12 turns", x.chance(12, false), 3);
        is("nothing slips", x.chance(12, true), 10000);
        x.slip(33);
        is("rounded down each time", x.chance(12, true), 10000 * 67 / 100 * 67 / 100 * 67 / 100);
        argument("13 turns", () -> x.chance(13, false));
        argument("-1 turns", () -> x.chance(-1, true));
        x.turn(1);
        is("nothing changed but the turn", x.count(7) + x.count(8), 2);

        promise = 47;
        FourHands y = piece(DUET);
        is("expect", y.expect(), 0);
        y.slip(99);
        is("expect", y.expect(), 2);
        y.slip(100);
        is("expect", y.expect(), 3);

        promise = 48;
        FourHands w = piece(DUET, "hand of 1 at 60 reach 1 skill 1");
        is("of several the least", w.worst(1), 1);
        is("none", w.worst(2), -1);
        w.turn(1);
        w.put(2, 40);
        add(w, "note 41 at 1");
        w.turn(1);
        is("the most tired", w.worst(1), 2);
        index("worst(3)", () -> w.worst(3));
        index("worst(-1)", () -> w.worst(-1));
    }

    private static void choices() {
        promise = 49;
        FourHands x = piece("hand of 0 at 10 reach 2 skill 9;note 10 at 0;note 10 at 1;note 10 at 2;note 10 at 3");
        x.bind(0, true);
        is("missed 0", x.rests(0), 14);
        x.bind(0, false);
        int[] due = {14, 6, 6, 6, 2};
        for (int missing = 4; missing > 0; missing--) {
            is("missed " + missing, x.rests(0), due[missing]);
            x.strike(missing - 1, true);
        }
        is("missed 0", x.rests(0), due[0]);
        index("rests(1)", () -> x.rests(1));
        index("rests(-1)", () -> x.rests(-1));

        promise = 50;
        FourHands y = piece(DUET);
        is("free", y.free(), 0);
        y.bind(1, true);
        is("free", y.free(), 2);
        y.turn(1);
        is("the beat that comes", y.free(), 3);
        is("without hands", new FourHands().free(), 0);

        promise = 51;
        FourHands s = piece("hand of 0 at 10 reach 1 skill 1;hand of 0 at 50 reach 1 skill 1;hand of 0 at 30 reach 1 skill 1;hand of 1 at 63 reach 2 skill 1");
        is("span(0)", s.span(0), 40);
        is("one hand", s.span(1), 0);
        is("no hand", s.span(2), 0);
        index("span(3)", () -> s.span(3));
        index("span(-1)", () -> s.span(-1));

        promise = 52;
        is("cross", s.cross(), 0);
        s.put(3, 30);
        is("cross", s.cross(), 1);
        s.put(3, 0);
        is("cross", s.cross(), 3);

        promise = 53;
        is("hardest", piece(DUET).hardest(), 2);
        FourHands h = piece("note 1 at 0;note 2 at 0 hard 4;note 3 at 0 hard 4");
        is("of several the least", h.hardest(), 1);
        is("the first one", piece("note 1 at 0 hard 1;note 2 at 0").hardest(), 0);
        h.strike(1, true);
        is("not struck", h.hardest(), 2);
        h.strike(0, true);
        h.strike(2, true);
        is("none", h.hardest(), -1);

        promise = 55;
        is("alike", s.alike(), 3);
        is("alike", piece(DUET).alike(), 0);
    }

    private static void looksAhead() {
        promise = 54;
        StringBuilder t = new StringBuilder("hand of 0 at 1 reach 1 skill 9");
        for (int i = 0; i < 12; i++) t.append(";note 1 at ").append(i).append(" hard 4");
        FourHands x = piece(t.toString());
        is("tires", x.tires(), 10);
        x.turn(9);
        is("tires", x.tires(), 1);
        x.turn(1);
        is("tires", x.tires(), 0);
        is("never", piece(DUET).tires(), -1);
        StringBuilder u = new StringBuilder("hand of 0 at 1 reach 1 skill 9;beat 11");
        for (int i = 1; i < 12; i++) u.append(";note 1 at ").append(i);
        FourHands last = piece(u.toString());
        is("10 a page", last.tires(), 60);
        last.turn(1);
        is("10 a page", last.tires(), 59);
        last.strike(0, true);
        is("8 a page: not by 60 turns", last.tires(), -1);

        promise = 56;
        FourHands y = piece(DUET);
        is("at", y.ahead(1, 0, 0), 20);
        is("at", y.ahead(1, 1, 0), 15);
        is("tired", y.ahead(1, 1, 1), 1);
        is("tired", y.ahead(1, 60, 1), 0);
        y.slip(100);
        is("nothing slips", y.ahead(0, 3, 0), 12);
        is("no draws", y.seed(1), 1);
        index("hand 2", () -> y.ahead(2, 61, 2));
        argument("n 61", () -> y.ahead(0, 61, 2));
        argument("n -1", () -> y.ahead(0, -1, 0));
        fails("what 2", ELEMENT, () -> y.ahead(0, 60, 2));
        fails("what -1", ELEMENT, () -> y.ahead(0, 60, -1));

        promise = 57;
        rule(y, "take if hard > 2");
        is("0 turns", y.trial(0, false), 0);
        is("slipped", y.trial(1, false), 2);
        is("lost", y.trial(2, true), 1);
        y.turn(1);
        is("those of now, too", y.trial(0, false), 2);
        is("those of now, too", y.trial(12, false), 5);
        is("nothing stays", y.count(8), 2);
        is("lost", y.trial(60, true), 5);
        argument("n 61", () -> y.trial(61, true));
        argument("n -1", () -> y.trial(-1, false));

        promise = 58;
        FourHands z = piece("hand of 0 at 1 reach 1 skill 9;note 1 at 0;slip 50");
        int low = 9;
        int high = 0;
        for (int from = 1; from <= 6; from++) {
            z.seed(from);
            low = Math.min(low, z.trial(60, false));
            high = Math.max(high, z.trial(60, false));
        }
        z.seed(77);
        is("least", z.bounds(60, false), low);
        is("greatest", z.bounds(60, true), high);
        is("they are not one", low < high, true);
        is("the seed stays", z.seed(1), 77);
        is("0 turns", z.bounds(0, true), 0);
        FourHands seven = piece("hand of 0 at 1 reach 1 skill 9;slip 17;note 1 at 0;note 1 at 1;note 1 at 2;note 1 at 3;note 1 at 4;note 1 at 5;note 1 at 6");
        is("seed 6 alone slips once", seven.bounds(7, false), 1);
        is("seed 1 alone slips thrice", seven.bounds(7, true), 3);
        argument("n 61", () -> z.bounds(61, true));
        argument("n -1", () -> z.bounds(-1, false));
    }

    private static void logAndPast() {
        promise = 59;
        FourHands x = piece(DUET);
        is("no rows", x.led(0, false), 0);
        is("no rows", x.led(0, true), -1);
        x.turn(1);
        is("hand", x.led(1, true), 1);
        is("left over", x.led(2, true), -1);
        is("row", x.led(2, false), 1);
        x.turn(60);
        is("rows", x.led(1, false), 6);
        index("led(6)", () -> x.led(6, true));
        index("led(-1)", () -> x.led(-1, false));

        promise = 60;
        FourHands y = piece(DUET, "page 5");
        is("no row", y.log(0, 0), -2);
        y.turn(1);
        int[][] rows = {{5, 2, -1, 2}, {5, 1, 1, 0}, {5, 0, 0, 0}};
        for (int i = 0; i < 12; i++) is("log(" + i / 4 + ", " + i % 4 + ")", y.log(i / 4, i % 4), rows[i / 4][i % 4]);
        is("log(3, 3)", y.log(3, 3), -2);
        is("log(-1, 0)", y.log(-1, 0), -2);
        fails("what 4", ELEMENT, () -> y.log(99, 4));
        fails("what -1", ELEMENT, () -> y.log(0, -1));
        rule(y, "take if key > 63");
        y.slip(100);
        y.turn(12);
        is("lost", y.log(0, 3), 3);
        is("the page of it", y.log(0, 0), 6);
        is("slipped", y.log(2, 3), 1);
        for (int i = 0; i < 15; i++) y.turn(12);
        is("60 rows", y.count(12), 60);
        is("the 60th", y.log(59, 1) >= 0, true);
        is("no 61st", y.log(60, 1), -2);

        promise = 61;
        is("seed", new FourHands().seed(9), 1);
        FourHands s = new FourHands();
        s.seed(Integer.MIN_VALUE);
        is("seed", s.seed(3), Integer.MIN_VALUE);
        is("no act", s.undo(), false);

        promise = 62;
        undone();
        promise = 63;
        FourHands i = piece(DUET);
        i.put(0, 30);
        i.image();
        is("acts stay remembered", i.count(13), 1);
        rule(i, "far 40");
        add(i, "note 1 at 1");
        i.turn(5);
        i.seed(8);

        promise = 64;
        is("none was kept", new FourHands().back(), false);
        is("back", i.back(), true);
        is("notes", i.count(1), 6);
        is("texts", i.count(2), 1);
        is("law", i.count(3), -1);
        is("reaches", i.reaches(0, 0), 5);
        is("at", i.hand(0, 1), 30);
        is("beat", i.count(4), 0);
        is("rows", i.count(12), 0);
        is("seed", i.seed(8), 1);
        is("going back: no acts", i.undo(), false);
        tell(i, "slip 5");
        is("the image stays", i.back(), true);
        is("the tape stays", i.piece(), 2);
        wrongPiece(i, "slip", 4);
        i.back();
        is("fault stays", i.fault(), 4);
        is("slip", i.count(6), 0);

        promise = 65;
        counts();
    }

    private static void undone() {
        FourHands x = piece(DUET);
        x.seed(5);
        x.slip(50);
        x.turn(20);
        x.seed(6);
        x.put(0, 33);
        x.rest(0);
        x.bind(1, true);
        x.strike(0, true);
        x.shift(1, 7);
        x.swap(0, 1);
        is("acts", x.count(13), 8);
        x.undo();
        is("swap", x.hand(0, 0), 0);
        x.undo();
        is("shift", x.note(1, 0), 0);
        x.undo();
        is("strike", x.note(0, 3), 0);
        x.undo();
        is("bind", x.hand(1, 5), 0);
        int tired = x.hand(0, 4);
        x.undo();
        is("rest", x.hand(0, 4) >= tired, true);
        x.undo();
        is("put", x.hand(0, 1), 12);
        is("undo", x.undo(), true);
        is("turns of one call are one", x.count(4) + x.count(5) + x.count(12) + x.count(7) + x.count(8) + x.count(9), 0);
        is("the seed is as ahead of it", x.seed(5), 5);
        is("undo", x.undo(), true);
        is("slip", x.count(6), 0);
        is("there is none", x.undo(), false);
        for (int i = 1; i <= 15; i++) x.put(0, i);
        is("12 are remembered", x.count(13), 12);
        for (int i = 0; i < 12; i++) is("undo", x.undo(), true);
        is("undo", x.undo(), false);
        is("at", x.hand(0, 1), 3);
        x.put(0, 9);
        wrongPiece(x, "slip", 4);
        is("a wrong text forgets nothing", x.count(13), 1);
        fails("put", INDEX, () -> x.put(0, 64));
        is("a call that throws is no act", x.count(13), 1);
        add(x, "");
        is("a text: none are remembered", x.undo(), false);
        tell(x, "slip 9");
        x.put(0, 10);
        x.undo();
        x.piece();
        is("the tape stays", x.count(6), 9);
    }

    private static void counts() {
        FourHands x = piece(DUET, "page 3;beat 11;slip 0");
        rule(x, "take if hard > 5;far 0");
        x.strike(3, true);
        x.turn(2);
        int[] due = {2, 6, 2, 2, 1, 4, 0, 2, 0, 1, 0, 55, 3, 2};
        for (int i = 0; i < due.length; i++) is("count(" + i + ")", x.count(i), due[i]);
        x.strike(3, false);
        x.turn(1);
        is("lost", x.count(10), 1);
        x.slip(100);
        x.turn(1);
        is("slipped", x.count(8), 1);
        is("count(14)", x.count(14), -1);
        is("count(-1)", x.count(-1), -1);
        is("count(MAX)", x.count(Integer.MAX_VALUE), -1);
    }
}
