/**
 * What is reckoned from hands and notes without a turn (MISSED of promise 7, promises 24, 27 to 45, 48 to 53 and 55): each
 * bound from both of its sides.
 */
public final class ReckonEdgesTest extends Checks {
    public static void main(String[] args) {
        fullest();
        handsWithR();
        needed();
        missed();
        spare();
        best();
        clean();
        better();
        betterWhereNoOtherIs();
        tune();
        steps();
        next();
        nextOfLongRows();
        octaves();
        sevens();
        like();
        whose();
        whoseRows();
        ask();
        trade();
        loads();
        sure();
        worst();
        rests();
        free();
        spanAndCross();
        hardest();
        alike();
        report("ReckonEdgesTest");
    }

    private static final int EACH_NOTE = (1 << 14) - 1;

    private static String join(String between, String ahead, String behind, int... numbers) {
        StringBuilder s = new StringBuilder();
        for (int n : numbers) s.append(s.length() == 0 ? "" : between).append(ahead).append(n).append(behind);
        return s.toString();
    }

    /** Keys at one beat. */
    private static String chord(int beat, int... keys) { return join(";", "note ", " at " + beat, keys); }

    /** A key at each of some beats. */
    private static String row(int key, int... beats) { return join(";", "note " + key + " at ", "", beats); }

    /** Keys at beats 0, 1, 2 .. */
    private static FourHands tuneOf(int... keys) {
        StringBuilder s = new StringBuilder();
        for (int i = 0; i < keys.length; i++) s.append(i == 0 ? "" : ";").append("note ").append(keys[i]).append(" at ").append(i);
        return piece(s.toString());
    }

    private static int[] upTo(int below) {
        int[] n = new int[below];
        for (int i = 0; i < below; i++) n[i] = i;
        return n;
    }

    // ---- beats and their notes

    private static void fullest() {
        promise = 24;
        says("FULL: the BEAT of the most NOTES (of several the least; none without NOTES).");
        is("none", new FourHands().full(), -1);
        is("the first beat", piece("note 1 at 0").full(), 0);
        is("the last beat", piece("note 1 at 11").full(), 11);
        FourHands x = piece(chord(3, 1, 2), chord(9, 1, 2, 3));
        is("one more", x.full(), 9);
        x.strike(4, true);
        is("of several the least", x.full(), 3);
        x.strike(0, true);
        is("one less", x.full(), 9);
        for (int n = 0; n < 5; n++) x.strike(n, true);
        is("all are struck", x.full(), -1);
        is("one at each beat", piece(row(5, upTo(12))).full(), 0);
    }

    private static void handsWithR() {
        promise = 27;
        says("if each had all KEYS that are from one another 2 times R at most");
        for (int r = 0; r <= 40; r++) {
            if (r > 0 && r < 32) is("as far as 2 times " + r, piece(chord(0, 0, 2 * r)).hands(0, r), 1);
            if (r < 32) is("1 more than 2 times " + r, piece(chord(0, 0, 2 * r + 1)).hands(0, r), 2);
            is("one note", piece("note 63 at 11").hands(11, r), 1);
            if (r > 31) is("all keys", piece(chord(0, 0, 63, 31)).hands(0, r), 1);
        }
        says("the fewest HANDS with which all its NOTES could be reached");
        FourHands x = piece(chord(4, 30, 0, 20, 10, 40));
        int[] rs = {0, 4, 5, 9, 10, 14, 15, 19, 20, 40};
        int[] due = {5, 5, 3, 3, 2, 2, 2, 2, 1, 1};
        for (int i = 0; i < rs.length; i++) is("r " + rs[i], x.hands(4, rs[i]), due[i]);
        is("fourteen", piece(chord(4, upTo(14))).hands(4, 0), 14);
        is("fourteen", piece(chord(4, upTo(14))).hands(4, 1), 5);
        says("HANDS (0 without NOTES).");
        is("another beat", x.hands(5, 0), 0);
        for (int n = 0; n < 4; n++) x.strike(n, true);
        is("struck ones are none", x.hands(4, 0), 1);
        x.strike(4, true);
        is("all are struck", x.hands(4, 40), 0);
    }

    private static void needed() {
        promise = 28;
        says("NEEDED: the greatest number of NOTES of one BEAT.");
        is("of none", new FourHands().needed(), 0);
        is("one at each", piece(row(5, upTo(12))).needed(), 1);
        FourHands x = piece(chord(11, upTo(14)));
        is("all", x.needed(), 14);
        x.strike(13, true);
        is("one struck", x.needed(), 13);
        for (int n = 0; n < 6; n++) x.shift(n, 0);
        is("7 and 6", x.needed(), 7);
        x.shift(6, 0);
        is("6 and 7", x.needed(), 7);
    }

    // ---- what is left over with a hand less, or one more

    private static void missed() {
        promise = 7;
        says("MISSED of a HAND: how many NOTES more would be left over in BEATS 0 to 11, each by all as it is now, if it was BOUND (below 0 never).");
        FourHands x = piece("hand of 0 at 5 reach 0 skill 9", row(5, upTo(12)));
        is("all twelve beats", x.hand(0, 7), 12);
        x.strike(0, true);
        is("eleven", x.hand(0, 7), 11);
        x.bind(0, true);
        is("a bound one", x.hand(0, 7), 0);
        x.bind(0, false);
        add(x, "hand of 0 at 5 reach 0 skill 9");
        is("another one is there", x.hand(0, 7), 0);
        x.bind(0, true);
        is("the other one is alone", x.hand(1, 7), 11);
        FourHands chain = piece("hand of 0 at 10 reach 0 skill 9;hand of 0 at 11 reach 1 skill 9;hand of 0 at 12 reach 0 skill 9", chord(0, 10, 12));
        for (int hand = 0; hand < 3; hand++) is("others move up for hand " + hand, chain.hand(hand, 7), 0);
        chain.bind(1, true);
        is("none can move up", chain.hand(0, 7), 1);
        is("none can move up", chain.hand(2, 7), 1);
        FourHands here = piece("hand of 0 at 10 reach 5 skill 9;note 15 at 0;note 20 at 1");
        is("by all as it is now", here.hand(0, 7), 1);

        promise = 29;
        says("MISSED MOST: the HAND of the most (of several the least; none without HANDS).");
        is("none", piece("note 1 at 1").missed(), -1);
        is("all 0", chain.missed(), 0);
        FourHands y = piece("hand of 0 at 1 reach 0 skill 9;hand of 0 at 2 reach 0 skill 9;hand of 0 at 3 reach 0 skill 9",
            row(1, 0), row(2, 0, 1), row(3, 0, 1));
        is("of several the least", y.missed(), 1);
        y.strike(1, true);
        is("one alone", y.missed(), 2);
        y.bind(2, true);
        is("the bound one is not missed", y.missed(), 0);
        is("without notes", piece("hand of 0 at 1 reach 0 skill 9").missed(), 0);
        FourHands last = piece(lines("hand of 0 at 60 reach 1 skill 9", 5), "hand of 0 at 1 reach 1 skill 9;note 1 at 11");
        is("the last one", last.missed(), 5);

        promise = 30;
        says("SPARE: HANDS without each of which, alone, no NOTE more would be left over so, as bits.");
        is("all but the last one", last.spare(), 31);
        last.strike(0, true);
        is("all", last.spare(), 63);
    }

    private static void spare() {
        promise = 30;
        is("none", piece("note 1 at 1").spare(), 0);
        FourHands x = piece(lines("hand of 0 at 1 reach 1 skill 9", 2), chord(0, 1));
        is("each alone", x.spare(), 3);
        add(x, "note 2 at 0");
        is("both are needed", x.spare(), 0);
        add(x, "note 0 at 0");
        is("one is left over all the same", x.spare(), 0);
        x.bind(0, true);
        is("the bound one", x.spare(), 1);
    }

    private static void best() {
        promise = 31;
        says("BEST to add: the KEY (0 to 63) at which one HAND more, REACH 8, SKILL 9, of PLAYER 2, would leave over the fewest NOTES so (of several the least).");
        int[] keys = {0, 7, 8, 9, 10, 62, 63};
        int[] due = {0, 0, 0, 1, 2, 54, 55};
        for (int i = 0; i < keys.length; i++) is("key " + keys[i], piece("note " + keys[i] + " at 11 hard 9").best(), due[i]);
        is("many are left over all the same", piece(chord(0, 40, 41, 42, 43, 44, 45, 46, 47, 48, 49, 50, 51, 52, 53)).best(), 32);
        FourHands ends = piece("note 63 at 0;note 0 at 1;note 0 at 2");
        rule(ends, "near 8");
        is("key 0", ends.best(), 0);
        ends.strike(1, true);
        ends.strike(2, true);
        is("key 63", ends.best(), 63);
        rule(ends, "near 40");
        is("it reaches 0 at least", ends.best(), 63);
        rule(ends, "near 7");
        is("key 62", ends.best(), 62);
        is("16 apart", piece("note 20 at 0;note 36 at 1").best(), 28);
        is("17 apart", piece("note 20 at 0;note 37 at 1").best(), 12);
        is("at one beat one alone", piece("note 20 at 0;note 36 at 0").best(), 12);
        is("the more the better", piece("note 9 at 0;note 50 at 1;note 50 at 2").best(), 42);
        is("nothing is left over", piece("hand of 0 at 40 reach 0 skill 9;note 40 at 0").best(), 0);
        is("the other hand may have that one", piece("hand of 0 at 40 reach 10 skill 9;note 40 at 0;note 50 at 0").best(), 32);
        FourHands x = piece("note 40 at 0");
        x.strike(0, true);
        is("without notes that stand", x.best(), 0);
        x.strike(0, false);
        rule(x, "near 8 if player < 2");
        is("player 2, not 1", x.best(), 32);
        rule(x, "near 8 if player > 2");
        is("player 2, not 3", x.best(), 32);
        rule(x, "near 8 if player > 1");
        is("player 2, not 1", x.best(), 40);
        rule(x, "near 8 if tired > 0");
        is("not tired", x.best(), 32);
        rule(x, "far 3 if left");
        is("left of it it reaches no more", x.best(), 32);
        rule(x, "near 3 if not left");
        is("5 to the right", x.best(), 35);
        for (int hands = 0; hands <= 6; hands++) {
            FourHands y = hands == 0 ? piece("note 40 at 0") : piece(lines("hand of 0 at 0 reach 0 skill 0", hands), "note 40 at 0");
            rule(y, "near 1 if hand > " + (hands == 0 ? 999 : hands - 1) + ";near 2 if hand > " + hands);
            is("its number is " + hands, y.best(), hands == 0 ? 32 : 33);
            is("it is there no more", y.count(0), hands);
        }
    }

    private static void clean() {
        promise = 32;
        says("CLEAN: of sets of NOTES the fewest to be STRUCK out so that nothing is left over in any BEAT .. of several the least as bits.");
        is("none", new FourHands().clean(), 0);
        is("without hands all", piece(chord(3, upTo(14))).clean(), EACH_NOTE);
        FourHands x = piece("hand of 0 at 10 reach 3 skill 9;note 10 at 0;note 12 at 0");
        is("left over", x.left(0), 2);
        is("the least, not the one left over", x.clean(), 1);
        x.strike(0, true);
        is("nothing", x.clean(), 0);
        FourHands y = piece("hand of 0 at 10 reach 2 skill 9;hand of 0 at 20 reach 0 skill 9", chord(0, 9, 20, 11), chord(11, 50, 20));
        is("one of those of hand 0, and one that none can have", y.clean(), 1 | 1 << 3);
        FourHands z = piece("hand of 0 at 10 reach 2 skill 9;note 30 at 5;note 10 at 5;note 11 at 5;note 12 at 5");
        is("one that must be, and the least of the others", z.clean(), 1 | 2 | 4);
        FourHands t = piece(lines("hand of 0 at 10 reach 20 skill 9", 6), chord(0, 1, 2, 3, 4, 5, 6), chord(1, 1, 2, 3, 4, 5, 6, 7, 8));
        is("six at beat 0, eight at beat 1", t.clean(), 1 << 6 | 1 << 7);
        FourHands chain = piece("hand of 0 at 0 reach 5 skill 9;hand of 0 at 10 reach 5 skill 9;hand of 0 at 20 reach 5 skill 9;hand of 0 at 30 reach 5 skill 9;"
            + "hand of 0 at 40 reach 5 skill 9;hand of 0 at 50 reach 5 skill 9", chord(6, 0, 45, 35, 25, 15, 5));
        is("for key 0 all others move up", chain.clean(), 0);
        add(chain, "note 55 at 6");
        is("one is too many: the least", chain.clean(), 1);
        FourHands round = piece("hand of 0 at 17 reach 8 skill 9;hand of 0 at 24 reach 6 skill 9;hand of 0 at 24 reach 2 skill 9;hand of 0 at 24 reach 2 skill 9",
            chord(0, 10, 30, 20, 22));
        is("keys 10, 20 and 30 have two hands", round.clean(), 1);
        round.strike(2, true);
        is("keys 10 and 30 have them", round.clean(), 0);
        FourHands move = piece("hand of 0 at 10 reach 1 skill 9;hand of 0 at 11 reach 9 skill 9", chord(0, 10, 11, 20));
        is("hand 1 is for key 20 alone", move.clean(), 1);
        move.strike(0, true);
        is("both stand", move.clean(), 0);
    }

    private static void better() {
        promise = 33;
        says("SHIFT of a NOTE: the BEAT .. so that the fewest NOTES are left over in all BEATS, each by all as it is now (of several the least; its own one, if none is better).");
        FourHands x = piece("hand of 0 at 10 reach 1 skill 9;note 11 at 0", row(10, 0, 1, 2, 3, 4, 5, 6, 7, 8, 9, 10));
        is("the last beat alone", x.better(0), 11);
        x.strike(1, true);
        is("its own one: none is better", x.better(0), 0);
        x.strike(1, false);
        x.strike(5, true);
        is("of several the least", x.better(0), 4);
        x.strike(5, false);
        add(x, "note 9 at 11");
        is("all are as good: its own one", x.better(0), 0);
        FourHands first = piece("hand of 0 at 10 reach 1 skill 9;note 10 at 11;note 11 at 11");
        is("the first beat", first.better(0), 0);
        is("the first beat", first.better(1), 0);
        is("it is not put there", first.note(1, 0), 11);
        is("none can have it", piece("note 10 at 7").better(0), 7);
        is("where it is it is good", piece("hand of 0 at 10 reach 1 skill 9;note 10 at 7").better(0), 7);
        says("IllegalStateException: it is STRUCK.");
        first.strike(0, true);
        fails("struck", STATE, () -> first.better(0));
        is("the other one is at its best", first.better(1), 11);
    }

    private static void betterWhereNoOtherIs() {
        promise = 33;
        says("no other NOTE of that KEY there");
        FourHands x = piece(lines("hand of 0 at 10 reach 2 skill 9", 2), chord(3, 10, 11, 12), "note 10 at 0;note 11 at 1");
        is("not where key 10 is", x.better(0), 1);
        is("not where key 11 is", x.better(1), 0);
        is("key 12 is nowhere else", x.better(2), 0);
        x.strike(3, true);
        is("where key 10 is struck", x.better(0), 0);
        says("IndexOutOfBoundsException: there is no such .. NOTE");
        index("better(5)", () -> x.better(5));
        rule(x, "near 2 if beat < 11");
        x.put(0, 40);
        x.put(1, 40);
        is("none can have it anywhere", x.better(1), 3);
        rule(x, "far 40 if beat > 10");
        is("by the law at that beat", x.better(1), 11);
    }

    // ---- tunes and chords

    private static void tune() {
        promise = 34;
        says("TUNE of the highest, or the lowest KEYS: at a BEAT the highest (lowest) KEY of its NOTES; none.");
        FourHands x = piece(chord(0, 31, 0, 63), chord(11, 5));
        is("highest", x.tune(0, true), 63);
        is("lowest", x.tune(0, false), 0);
        is("of one", x.tune(11, true), 5);
        is("of one", x.tune(11, false), 5);
        is("of none", x.tune(1, true), -1);
        is("of none", x.tune(1, false), -1);
        x.strike(1, true);
        x.strike(2, true);
        is("of those that stand", x.tune(0, true), 31);
        is("of those that stand", x.tune(0, false), 31);
        x.strike(0, true);
        is("of none", x.tune(0, true), -1);
    }

    private static void steps() {
        promise = 35;
        says("STEPS: BEATS with NOTES whose highest KEY is by so much (told, below 0 too) more than that of the nearest BEAT with NOTES ahead of them: how many.");
        FourHands x = piece("note 0 at 0;note 63 at 5;note 40 at 5;note 0 at 11");
        int[] told = {63, -63, 62, 64, -62, -64, 0, 40, -40, Integer.MIN_VALUE, Integer.MAX_VALUE};
        int[] due = {1, 1, 0, 0, 0, 0, 0, 0, 0, 0, 0};
        for (int i = 0; i < told.length; i++) is("steps(" + told[i] + ")", x.steps(told[i]), due[i]);
        is("none ahead of the first beat", piece("note 9 at 0;note 5 at 11").steps(4), 0);
        is("ahead of the last one", piece("note 9 at 0;note 5 at 11").steps(-4), 1);
        FourHands all = piece(row(7, upTo(12)));
        is("eleven", all.steps(0), 11);
        all.strike(5, true);
        is("the nearest one with notes", all.steps(0), 10);
        is("one beat alone", piece("note 7 at 3").steps(0), 0);
        is("none", new FourHands().steps(0), 0);
    }

    private static int nextOf(FourHands x, int... told) {
        tellBytes(x, told);
        return x.next();
    }

    private static void next() {
        promise = 36;
        says("the longest end of the told row (of no KEYS at least) that stands somewhere in the TUNE with a KEY behind it");
        FourHands x = tuneOf(5, 7, 9);
        is("none told", nextOf(x), 5);
        is("7", nextOf(x, 7), 9);
        is("5, 7", nextOf(x, 5, 7), 9);
        is("1, 7", nextOf(x, 1, 7), 9);
        is("9 stands at the end alone", nextOf(x, 9), 5);
        is("7, 9 stands at the end alone", nextOf(x, 7, 9), 5);
        is("5, 7, 9 and 5", nextOf(x, 5, 7, 9, 5), 7);
        is("what stands nowhere", nextOf(x, 63), 5);
        says("of the KEYS that stand behind it there the one that does so the most often (of several the least)");
        FourHands y = tuneOf(5, 9, 5, 7, 5, 9, 4, 4, 4, 6);
        is("9 twice, 7 once", nextOf(y, 5), 9);
        is("5 and 4 once", nextOf(y, 9), 4);
        is("7, 5", nextOf(y, 7, 5), 9);
        is("4 twice, 6 once", nextOf(y, 4), 4);
        is("4 and 6 once", nextOf(y, 4, 4), 4);
        is("three of 4", nextOf(y, 4, 4, 4), 6);
        is("four of 4: three stand", nextOf(y, 4, 4, 4, 4), 6);
        is("none told: 4 and 5 thrice", nextOf(y), 4);
        says("none, if there is no such KEY");
        is("no tune", nextOf(new FourHands()), -1);
        is("no tune", nextOf(new FourHands(), 1, 2), -1);
        is("a tune of one", nextOf(piece("note 0 at 11"), 0), 0);
        FourHands struck = piece("note 3 at 3");
        struck.strike(0, true);
        is("struck", nextOf(struck), -1);
        is("the highest keys alone", nextOf(piece("note 8 at 0;note 3 at 0;note 9 at 1"), 3), 8);
    }

    private static void nextOfLongRows() {
        promise = 36;
        says("told is a row of KEYS (at most 20)");
        FourHands x = tuneOf(11, 12, 13, 14, 15, 16, 17, 18, 19, 20, 21, 22);
        is("11 of 12", nextOf(x, 11, 12, 13, 14, 15, 16, 17, 18, 19, 20, 21), 22);
        is("all 12", nextOf(x, 11, 12, 13, 14, 15, 16, 17, 18, 19, 20, 21, 22), 11);
        int[] twenty = new int[20];
        for (int i = 0; i < 20; i++) twenty[i] = i + 2;
        is("20", nextOf(x, twenty), 22);
        for (int n : new int[] {21, 22, 40, 400}) {
            tellBytes(x, new int[n]);
            fails(n + " told", ARGUMENT, x::next);
            is("the tape is used up", x.end(1), false);
        }
        for (int key = 0; key < 256; key++) {
            int told = key;
            FourHands y = tuneOf(0, 63, 1);
            tellBytes(y, 0, told);
            fails("key " + told, told < 64 ? null : ARGUMENT, y::next);
            tellBytes(y, told, 0);
            fails("key " + told + " ahead", told < 64 ? null : ARGUMENT, y::next);
        }
        is("key 63", nextOf(tuneOf(0, 63, 1), 63), 1);
        is("key 0", nextOf(tuneOf(0, 63, 1), 0), 63);
    }

    private static void octaves() {
        promise = 37;
        says("INTERVALS: pairs of NOTES of one BEAT that are 12, 24, 36, 48 or 60 from each other: how many.");
        for (int step = 1; step < 64; step++) {
            is(step + " apart", piece(chord(0, 0, step)).octaves(), step % 12 == 0 ? 1 : 0);
            is(step + " apart, from above", piece(chord(11, 63, 63 - step)).octaves(), step % 12 == 0 ? 1 : 0);
        }
        FourHands x = piece(chord(5, 0, 12, 24, 36, 48, 60));
        is("all of six", x.octaves(), 15);
        x.strike(0, true);
        is("all of five", x.octaves(), 10);
        is("at unlike beats", piece("note 0 at 0;note 12 at 1;note 0 at 2").octaves(), 0);
    }

    private static void sevens() {
        promise = 38;
        says("SEVENS: BEATS of 7 NOTES at least, as bits.");
        for (int size = 6; size <= 8; size++) {
            is(size + " at beat 0", piece(chord(0, upTo(size))).sevens(), size < 7 ? 0 : 1);
            is(size + " at beat 11", piece(chord(11, upTo(size))).sevens(), size < 7 ? 0 : 1 << 11);
        }
        FourHands x = piece(chord(0, upTo(7)), chord(11, upTo(7)));
        is("both", x.sevens(), 1 | 1 << 11);
        x.strike(7, true);
        is("one struck", x.sevens(), 1);
        is("fourteen", piece(chord(3, upTo(14))).sevens(), 8);
    }

    private static void like() {
        promise = 39;
        says("LIKE: pairs of BEATS of the same KEYS, some: how many.");
        is("none", new FourHands().like(), 0);
        is("one beat", piece("note 1 at 1").like(), 0);
        is("all beats", piece(row(1, upTo(12))).like(), 66);
        FourHands x = piece(chord(0, 1, 63), chord(11, 63, 1, 5));
        is("one more", x.like(), 0);
        x.strike(4, true);
        is("the same", x.like(), 1);
        x.strike(0, true);
        is("one less", x.like(), 0);
        for (int n = 1; n < 4; n++) x.strike(n, true);
        is("without notes they are not like", x.like(), 0);
        is("two kinds", piece(row(1, 0, 1, 2), row(2, 3, 4)).like(), 4);
    }

    // ---- whose part it is

    private static int whoseOf(FourHands x, boolean narrow, int... told) {
        tellBytes(x, told);
        return x.whose(narrow);
    }

    private static void whose() {
        promise = 40;
        says("it has a NOTE, if the KEY by 8 (rounded down) is between them (both too) and HARD is that at least");
        for (int octave = 0; octave < 8; octave++) {
            for (int hard = 0; hard <= 9; hard++) {
                FourHands x = piece("note " + 8 * octave + " at 0 hard " + hard + ";note " + (8 * octave + 7) + " at 0 hard " + hard);
                int have = (octave + 1) * (8 - octave) * (hard + 1);
                for (int n = 0; n < 2; n++) {
                    is("note " + n + " of octave " + octave + " hard " + hard, whoseOf(x, false, n, 1), have);
                    is("not note " + n + " of octave " + octave + " hard " + hard, whoseOf(x, false, n, 0), 360 - have);
                }
                is("both or none", whoseOf(x, false, 0, 1, 1, 0), 0);
            }
        }
        says("NARROW: the fewest octaves in one that fits; none.");
        for (int low = 0; low < 8; low++) {
            for (int high = low; high < 8; high++) {
                FourHands x = piece("note " + (8 * low + 3) + " at 0;note " + 8 * high + " at 1");
                is("octaves " + low + " to " + high, whoseOf(x, true, 0, 1, 1, 1), high - low + 1);
                is("how many", whoseOf(x, false, 0, 1, 1, 1), (low + 1) * (8 - high));
            }
        }
        FourHands x = piece("note 0 at 0 hard 5;note 63 at 0 hard 4");
        is("none told", whoseOf(x, false), 360);
        is("none told", whoseOf(x, true), 1);
        is("neither fits", whoseOf(x, false, 0, 1, 0, 0), 0);
        is("neither fits", whoseOf(x, true, 0, 1, 0, 0), -1);
        is("least hard 5 parts them too", whoseOf(x, false, 0, 1, 1, 0), 7 * 6 + 1);
        says("a NOTE (not asked whether STRUCK)");
        x.strike(0, true);
        x.strike(1, true);
        is("struck", whoseOf(x, false, 0, 1, 1, 0), 7 * 6 + 1);
    }

    private static void rowsFail(String what, FourHands x, int... told) {
        tellBytes(x, told);
        fails("whose of " + what, ARGUMENT, () -> x.whose(false));
        is("the tape is used up", x.end(1), false);
        tellBytes(x, told);
        fails("narrow of " + what, ARGUMENT, () -> x.whose(true));
        tellBytes(x, told);
        fails("ask of " + what, ARGUMENT, x::ask);
        is("the tape is used up", x.end(1), false);
    }

    private static void rowsStand(String what, FourHands x, int... told) {
        tellBytes(x, told);
        fails("whose of " + what, null, () -> x.whose(false));
        tellBytes(x, told);
        fails("ask of " + what, null, x::ask);
        is("the tape is used up", x.end(1), false);
    }

    private static void whoseRows() {
        promise = 40;
        says("of each two bytes: the NOTE, 1 or 0; at most 40 bytes");
        for (int n = 0; n <= 44; n++) {
            FourHands x = piece("note 5 at 0");
            if (n <= 40 && n % 2 == 0) rowsStand(n + " bytes", x, new int[n]);
            else rowsFail(n + " bytes", x, new int[n]);
        }
        rowsFail("400 bytes", piece("note 5 at 0"), new int[400]);
        for (int b = 0; b < 256; b++) {
            FourHands y = piece("note 5 at 0");
            if (b > 1) rowsFail("second byte " + b, y, 0, 1, 0, b);
            else rowsStand("second byte " + b, y, 0, 1, 0, b);
        }
        says("there are no such NOTES; none may be told");
        for (int notes = 0; notes <= 14; notes++) {
            FourHands y = notes == 0 ? new FourHands() : piece(chord(0, upTo(notes)));
            if (notes > 0) rowsStand("the last note", y, 0, 0, notes - 1, 1);
            rowsFail("a note too far", y, notes, 1);
            rowsFail("a note much too far", y, 255, 1);
            rowsStand("none", y);
        }
    }

    private static int askOf(FourHands x, int... told) {
        tellBytes(x, told);
        return x.ask();
    }

    private static void ask() {
        promise = 41;
        says("none with fewer than two, or without NOTES");
        FourHands x = piece("note 0 at 0;note 63 at 0 hard 1");
        is("8 and 16 of 360 have them", askOf(x), 1);
        is("one fits", whoseOf(x, false, 0, 1, 1, 1), 1);
        is("one fits", askOf(x, 0, 1, 1, 1), -1);
        is("none fits", askOf(x, 0, 1, 0, 0), -1);
        is("without notes", askOf(new FourHands()), -1);
        FourHands y = piece("note 0 at 0 hard 1;note 63 at 0 hard 1");
        is("two fit", whoseOf(y, false, 0, 1, 1, 1), 2);
        is("two fit that no note parts: the least", askOf(y, 0, 1, 1, 1), 0);
        add(y, "note 30 at 0");
        is("one note parts them", askOf(y, 0, 1, 1, 1), 2);
        says("so that the greater part is the least (of several the least)");
        is("of 16 * 10, 20 * 10, 20 * 10 of 360", askOf(piece("note 9 at 0 hard 9;note 31 at 0 hard 9;note 32 at 0 hard 9")), 1);
        is("of 140, 120", askOf(piece("note 15 at 0 hard 9;note 8 at 0 hard 8")), 0);
        is("more than half is as bad as less", askOf(piece("note 24 at 0 hard 9;note 24 at 1 hard 7;note 24 at 2 hard 8")), 2);
        FourHands z = piece("note 24 at 0 hard 7;note 24 at 1 hard 9");
        z.strike(0, true);
        is("a struck one, too", askOf(z), 0);
    }

    // ---- players

    private static void trade() {
        promise = 42;
        says("TRADE of two PLAYERS: the pair of HANDS, one of each, by whose change of PLAYERS both LOADS differ the least, and by less than now");
        String two = "hand of 0 at 10 reach 0 skill 9;hand of 0 at 20 reach 0 skill 9;hand of 1 at 30 reach 0 skill 9";
        FourHands x = piece(two, row(10, 0, 1), row(20, 0), row(30, 0));
        is("3 and 1: hand 0 makes it 2 and 2", x.trade(0, 1), 2);
        is("the other way round", x.trade(1, 0), 12);
        x.strike(0, true);
        is("2 and 1 stays 2 and 1 either way", x.trade(0, 1), -1);
        x.strike(3, true);
        is("2 and 0 is 1 and 1 either way: of several the least", x.trade(0, 1), 2);
        x.strike(1, true);
        is("1 and 0 is 0 and 1, or as it is", x.trade(0, 1), -1);
        FourHands most = piece(two, row(10, 0, 1), row(20, 0, 1, 2, 3), row(30, 0));
        is("6 and 1: 5 and 2 by hand 0, 3 and 4 by hand 1", most.trade(0, 1), 8);
        FourHands even = piece("hand of 2 at 30 reach 0 skill 9;hand of 0 at 10 reach 0 skill 9", row(10, 0, 1), row(30, 0));
        is("one hand each: 2 and 1 is 1 and 2", even.trade(0, 2), -1);
        rule(even, "near 1 if player < 2;far 1 if player > 1");
        add(even, "note 31 at 5");
        is("2 and 2", even.load(0) - even.load(2), 0);
        is("2 and 2 is not less", even.trade(0, 2), -1);
        even.strike(3, true);
        even.strike(1, true);
        is("1 and 1", even.trade(0, 2), -1);
        says("6 times that of the first and that of the second one (of several the least; none)");
        FourHands ends = piece("hand of 1 at 10 reach 0 skill 9;hand of 1 at 11 reach 0 skill 9;hand of 2 at 1 reach 0 skill 9;hand of 2 at 1 reach 0 skill 9;"
            + "hand of 2 at 1 reach 0 skill 9;hand of 0 at 20 reach 0 skill 9", row(10, 0), row(11, 0));
        is("first 5, second 0", ends.trade(0, 1), 30);
        is("first 0, second 5", ends.trade(1, 0), 5);
        is("players 0 and 2 have nothing", ends.trade(0, 2), -1);
        is("first 2, second 0", ends.trade(2, 1), 12);
        is("a player without hands", piece("hand of 0 at 10 reach 0 skill 9;note 10 at 0").trade(0, 1), -1);
        is("one of the two has no hands", piece(lines("hand of 1 at 10 reach 0 skill 9", 2), row(10, 0, 1)).trade(1, 0), -1);
        FourHands lone = piece("hand of 1 at 10 reach 0 skill 9;hand of 1 at 20 reach 0 skill 9", row(10, 0), row(20, 0));
        is("2 and 0, and none to change with", lone.trade(1, 0), -1);
        is("2 and 0, and none to change with", lone.trade(0, 1), -1);
        is("players stay", ends.hand(5, 0), 0);
    }

    private static void loads() {
        promise = 43;
        says("LOAD of a PLAYER: how many NOTES its HANDS have in the WAYS of all BEATS, each by all as it is now.");
        FourHands x = piece("hand of 2 at 10 reach 0 skill 9;hand of 2 at 11 reach 0 skill 9;hand of 0 at 50 reach 0 skill 9", row(10, upTo(12)), row(11, 0, 11));
        is("all fourteen", x.load(2), 14);
        is("none of theirs", x.load(0), 0);
        is("no hands", x.load(1), 0);
        x.put(2, 10);
        is("beats 0 and 11 stay with hand 1", x.load(2), 14);
        x.bind(0, true);
        is("two", x.load(2), 2);
        is("twelve", x.load(0), 12);
    }

    private static void sure() {
        says("whether both have a NOTE in its WAY, and not each of them CAN that of the other one, too");
        for (int left = 9; left <= 11; left++) {
            for (int right = 9; right <= 11; right++) {
                FourHands x = piece("hand of 0 at 10 reach " + left + " skill 9;hand of 0 at 20 reach " + right + " skill 9", chord(11, 10, 20));
                boolean doubt = left > 9 && right > 9;
                promise = 44;
                is("reach " + left + " and " + right, x.sure(0, 1, 11), !doubt);
                is("the other way round", x.sure(1, 0, 11), !doubt);
                is("at another beat", x.sure(0, 1, 0), false);
                promise = 45;
                is("doubt", x.doubt(11), doubt ? 1 : 0);
                is("at another beat", x.doubt(0), 0);
            }
        }
        promise = 44;
        FourHands hard = piece("hand of 0 at 10 reach 9 skill 5;hand of 0 at 11 reach 9 skill 4;note 10 at 0 hard 5;note 11 at 0 hard 4");
        is("too hard for the other one", hard.sure(0, 1, 0), true);
        FourHands none = piece("hand of 0 at 10 reach 0 skill 9;hand of 0 at 20 reach 0 skill 9;note 10 at 0");
        is("one has none", none.sure(0, 1, 0), false);
        is("one has none", none.sure(1, 0, 0), false);
        promise = 45;
        says("DOUBT of a BEAT: pairs of HANDS that both have a NOTE in its WAY and are not SURE: how many.");
        is("one has none", none.doubt(0), 0);
        FourHands six = piece(lines("hand of 0 at 10 reach 40 skill 9", 6), chord(0, upTo(6)));
        is("all pairs of six", six.doubt(0), 15);
        six.strike(5, true);
        is("all pairs of five", six.doubt(0), 10);
        is("without hands", piece("note 1 at 0").doubt(0), 0);
    }

    private static void worst() {
        promise = 48;
        says("WORST of a PLAYER: its HAND that is the most TIRED (of several the least; none).");
        FourHands x = piece("hand of 0 at 40 reach 0 skill 9;hand of 1 at 10 reach 0 skill 9;hand of 1 at 20 reach 0 skill 9;hand of 1 at 30 reach 0 skill 9",
            "note 10 at 0;note 20 at 0;note 40 at 0 hard 9;note 30 at 0 hard 1");
        is("none is tired: the least", x.worst(1), 1);
        is("no hands", x.worst(2), -1);
        x.turn(1);
        is("hand 3", x.worst(1), 3);
        is("hand 0", x.worst(0), 0);
        x.rest(3);
        is("of several the least", x.worst(1), 1);
        x.rest(1);
        is("hand 2", x.worst(1), 2);
        x.bind(2, true);
        is("a bound one, too", x.worst(1), 2);
    }

    private static void rests() {
        promise = 49;
        says("choices (2 times the HAND's and the third one's) from which neither would have more by the other one of its own: as bits.");
        FourHands x = piece("hand of 0 at 5 reach 0 skill 9", row(5, upTo(12)));
        int[] due = {14, 6, 6, 6, 2, 2, 2, 2, 2, 2, 2, 2, 2};
        for (int missing = 12; missing >= 0; missing--) {
            is("missed", x.hand(0, 7), missing);
            is("missed " + missing, x.rests(0), due[missing]);
            if (missing > 0) x.strike(missing - 1, true);
        }
    }

    private static void free() {
        promise = 50;
        says("FREE: HANDS that have no NOTE in the WAY of the BEAT that comes, as bits.");
        FourHands x = piece(lines("hand of 0 at 10 reach 5 skill 9", 6), chord(0, 10), chord(11, 8, 9, 10, 11, 12, 13), "beat 10");
        is("no notes", x.free(), 63);
        x.turn(1);
        is("none is free", x.free(), 0);
        x.bind(5, true);
        is("the bound one", x.free(), 32);
        x.turn(1);
        is("one is not free", Integer.bitCount(x.free()), 5);
    }

    private static void spanAndCross() {
        promise = 51;
        says("SPAN of a PLAYER: the greatest step between two KEYS where its HANDS are AT (0 with fewer than two).");
        FourHands x = piece("hand of 0 at 0 reach 0 skill 0;hand of 1 at 63 reach 0 skill 0;hand of 0 at 63 reach 0 skill 0");
        is("two", x.span(0), 63);
        is("one", x.span(1), 0);
        is("none", x.span(2), 0);
        x.put(2, 0);
        is("at one key", x.span(0), 0);
        x.put(2, 1);
        is("one step", x.span(0), 1);
        promise = 52;
        says("CROSS: pairs of HANDS of unlike PLAYERS of which the one of the lesser PLAYER is AT a greater KEY: how many.");
        FourHands y = piece("hand of 1 at 30 reach 0 skill 0;hand of 0 at 30 reach 0 skill 0");
        is("at one key", y.cross(), 0);
        y.put(1, 31);
        is("a greater one", y.cross(), 1);
        y.put(1, 29);
        is("a lesser one", y.cross(), 0);
        y.swap(0, 1);
        is("the players changed", y.cross(), 1);
        is("of one player", piece("hand of 1 at 30 reach 0 skill 0;hand of 1 at 0 reach 0 skill 0").cross(), 0);
        is("players 0 and 2", piece("hand of 0 at 63 reach 0 skill 0;hand of 2 at 62 reach 0 skill 0").cross(), 1);
        FourHands six = piece("hand of 0 at 63 reach 0 skill 0;hand of 0 at 60 reach 0 skill 0;hand of 1 at 40 reach 0 skill 0;"
            + "hand of 1 at 41 reach 0 skill 0;hand of 2 at 1 reach 0 skill 0;hand of 2 at 0 reach 0 skill 0");
        is("all pairs of unlike ones", six.cross(), 12);
    }

    private static void hardest() {
        promise = 53;
        says("HARDEST: the NOTE, not STRUCK, of the most HARD (of several the least; none).");
        is("none", new FourHands().hardest(), -1);
        is("hard 0", piece("note 1 at 0;note 2 at 0").hardest(), 0);
        FourHands x = piece("note 1 at 0 hard 8;note 2 at 0 hard 9;note 3 at 0 hard 9");
        is("of several the least", x.hardest(), 1);
        x.strike(1, true);
        is("not struck", x.hardest(), 2);
        x.strike(2, true);
        is("one less", x.hardest(), 0);
        x.strike(0, true);
        is("all are struck", x.hardest(), -1);
    }

    private static void alike() {
        promise = 55;
        says("ALIKE: pairs of HANDS of like REACH and SKILL: how many.");
        is("none", new FourHands().alike(), 0);
        is("one", piece("hand of 0 at 1 reach 2 skill 3").alike(), 0);
        is("of unlike players, at unlike keys", piece("hand of 0 at 1 reach 2 skill 3;hand of 1 at 9 reach 2 skill 3").alike(), 1);
        is("one without reach and skill", piece("hand of 0 at 0 reach 0 skill 0").alike(), 0);
        is("another reach", piece("hand of 0 at 1 reach 2 skill 3;hand of 0 at 1 reach 3 skill 3").alike(), 0);
        is("another skill", piece("hand of 0 at 1 reach 2 skill 3;hand of 0 at 1 reach 2 skill 4").alike(), 0);
        is("all of six", piece(lines("hand of 0 at 1 reach 40 skill 9", 6)).alike(), 15);
    }
}
