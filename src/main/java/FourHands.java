import java.util.NoSuchElementException;

/** A duet at which there is one hand more than there should be. */
public final class FourHands {
    public static final int NONE = -1;

    private static final int BEATS = 12;
    private static final int KEYS = 64;
    private static final int PLAYERS = 3;
    private static final int HANDS_MOST = 6;
    private static final int NOTES_MOST = 14;
    private static final int REACH_MOST = 40;
    private static final int SKILL_MOST = 9;
    private static final int HARD_MOST = 9;
    private static final int TIRED_MOST = 99;
    private static final int SLIP_MOST = 100;
    private static final int COUNT_MOST = 9999;
    private static final int TEXTS_MOST = 12;
    private static final int TAPE_MOST = 400;
    private static final int TURNS_MOST = 60;
    private static final int PLAYED = 0;
    private static final int SLIPPED = 1;
    private static final int TAKEN = 2;
    private static final int LOST = 3;
    private static final int NO_ROW = -2;

    private final Tape tape;
    private final State now;
    private final State draft;
    private final State image;
    private final Past past;
    private final Law law;
    private final Law imageLaw;
    private final PieceText pieceText;
    private final LawText lawText;
    private final Way way;
    private final Turns turns;
    private final Leftovers leftovers;
    private final Guess guess;
    private final int[] tuneKeys;
    private int tuneLength;
    private int fault;
    private boolean imaged;

    public FourHands() {
        tape = new Tape();
        now = new State();
        draft = new State();
        image = new State();
        past = new Past();
        law = new Law();
        imageLaw = new Law();
        pieceText = new PieceText(tape, draft);
        lawText = new LawText(tape);
        way = new Way(law);
        turns = new Turns(law, way);
        leftovers = new Leftovers(law);
        guess = new Guess(tape);
        tuneKeys = new int[BEATS];
        tuneLength = 0;
        fault = NONE;
        imaged = false;
    }

    // ---- the tape and the texts

    public int feed(int a, int b, int c, int d, int e) {
        if (tape.length + 20 > TAPE_MOST) {
            return NONE;
        }
        tape.addNumber(a);
        tape.addNumber(b);
        tape.addNumber(c);
        tape.addNumber(d);
        tape.addNumber(e);
        return tape.length;
    }

    public boolean end(int n) {
        if (n < 0 || n > tape.length) {
            return false;
        }
        tape.length = n;
        return true;
    }

    public int piece() throws IllegalArgumentException, UnsupportedOperationException {
        draft.copyFrom(now);
        boolean right = pieceText.read();
        fault = tape.wrong;
        if (!right) {
            throw new IllegalArgumentException("the text of the piece is wrong");
        }
        if (now.texts >= TEXTS_MOST) {
            throw new UnsupportedOperationException("there are 12 texts");
        }
        now.copyFrom(draft);
        now.texts++;
        past.forget();
        return now.texts;
    }

    public int law() throws IllegalArgumentException {
        boolean right = lawText.read();
        fault = tape.wrong;
        if (!right) {
            throw new IllegalArgumentException("the text of the law is wrong");
        }
        law.copyFrom(lawText.draft);
        past.forget();
        return law.lines;
    }

    public int fault() {
        return fault;
    }

    // ---- hands and notes

    public int hand(int hand, int what) throws IndexOutOfBoundsException, NoSuchElementException {
        checkHand(hand);
        switch (what) {
            case 0: return now.player[hand];
            case 1: return now.at[hand];
            case 2: return now.reach[hand];
            case 3: return now.skill[hand];
            case 4: return now.tired[hand];
            case 5: return now.bound >> hand & 1;
            case 6: return now.log.shareOf(hand);
            case 7: return leftovers.missedOf(now, hand);
            default: throw new NoSuchElementException("no such what of a hand");
        }
    }

    public int note(int note, int what) throws IndexOutOfBoundsException, NoSuchElementException {
        checkNote(note);
        switch (what) {
            case 0: return now.beatOf[note];
            case 1: return now.keyOf[note];
            case 2: return now.hardOf[note];
            case 3: return now.struck >> note & 1;
            case 4: return law.takesNote(now, note) ? 1 : 0;
            default: throw new NoSuchElementException("no such what of a note");
        }
    }

    public boolean can(int hand, int note) throws IndexOutOfBoundsException {
        checkHand(hand);
        checkNote(note);
        return law.isAble(now, hand, note);
    }

    public int reaches(int hand, int note) throws IndexOutOfBoundsException {
        checkHand(hand);
        checkNote(note);
        return law.reachOf(now, hand, note);
    }

    // ---- acts

    public int turn(int n) throws IllegalArgumentException {
        if (n < 1) {
            throw new IllegalArgumentException("turns are 1 to 60");
        }
        checkTurns(n, TURNS_MOST);
        past.remember(now);
        int left = 0;
        for (int i = 0; i < n; i++) {
            left += turns.playBeat(now, true);
        }
        return left;
    }

    public int put(int hand, int key) throws IndexOutOfBoundsException {
        checkHand(hand);
        if (key < 0 || key >= KEYS) {
            throw new IndexOutOfBoundsException("no such key");
        }
        past.remember(now);
        int was = now.at[hand];
        now.at[hand] = key;
        return was;
    }

    public int rest(int hand) throws IndexOutOfBoundsException {
        checkHand(hand);
        past.remember(now);
        int was = now.tired[hand];
        now.tired[hand] = 0;
        return was;
    }

    public boolean bind(int hand, boolean is) throws IndexOutOfBoundsException {
        checkHand(hand);
        past.remember(now);
        int was = now.bound;
        now.bound = withBit(was, hand, is);
        return now.bound != was;
    }

    public boolean strike(int note, boolean is) throws IndexOutOfBoundsException, IllegalStateException {
        checkNote(note);
        if (!is && now.isOccupied(now.beatOf[note], now.keyOf[note], note)) {
            throw new IllegalStateException("another note stands there");
        }
        past.remember(now);
        int was = now.struck;
        now.struck = withBit(was, note, is);
        return now.struck != was;
    }

    public int shift(int note, int beat)
            throws IndexOutOfBoundsException, IllegalArgumentException, IllegalStateException {
        checkNote(note);
        checkBeat(beat);
        int was = now.beatOf[note];
        if (was == beat) {
            throw new IllegalArgumentException("the note is at that beat");
        }
        if (now.isStanding(note) && now.isOccupied(beat, now.keyOf[note], note)) {
            throw new IllegalStateException("another note stands there");
        }
        past.remember(now);
        now.beatOf[note] = beat;
        return was;
    }

    public int slip(int n) throws IllegalArgumentException {
        if (n < 0 || n > SLIP_MOST) {
            throw new IllegalArgumentException("slip is 0 to 100");
        }
        past.remember(now);
        int was = now.slip;
        now.slip = n;
        return was;
    }

    public void swap(int hand, int other) throws IndexOutOfBoundsException, IllegalArgumentException {
        checkHand(hand);
        checkHand(other);
        if (now.player[hand] == now.player[other]) {
            throw new IllegalArgumentException("both hands are of one player");
        }
        past.remember(now);
        now.changePlayers(hand, other);
    }

    // ---- beats

    public int of(int beat) throws IndexOutOfBoundsException {
        checkBeat(beat);
        return now.notesAt(beat);
    }

    public int holds(int beat, int hand) throws IndexOutOfBoundsException {
        checkBeat(beat);
        checkHand(hand);
        way.find(now, beat);
        return way.noteOf[hand];
    }

    public int left(int beat) throws IndexOutOfBoundsException {
        checkBeat(beat);
        way.find(now, beat);
        return way.left;
    }

    public int go(int beat) throws IndexOutOfBoundsException {
        checkBeat(beat);
        way.find(now, beat);
        return way.distance;
    }

    public int third(int beat) throws IndexOutOfBoundsException {
        checkBeat(beat);
        way.find(now, beat);
        int bits = 0;
        for (int note = 0; note < now.notes; note++) {
            if ((way.left >> note & 1) != 0 && law.takesNote(now, note)) {
                bits |= 1 << note;
            }
        }
        return bits;
    }

    public int full() {
        int found = NONE;
        int most = 0;
        for (int beat = 0; beat < BEATS; beat++) {
            int size = Integer.bitCount(now.notesAt(beat));
            if (size > most) {
                most = size;
                found = beat;
            }
        }
        return found;
    }

    public int part() {
        return leftAhead();
    }

    public boolean easy() {
        return leftAhead() == 0;
    }

    public int hands(int beat, int r) throws IndexOutOfBoundsException, IllegalArgumentException {
        checkBeat(beat);
        if (r < 0 || r > REACH_MOST) {
            throw new IllegalArgumentException("r is 0 to 40");
        }
        long keys = now.keysAt(beat);
        int fewest = 0;
        int covered = NONE;
        for (int key = 0; key < KEYS; key++) {
            if (key > covered && (keys >> key & 1) != 0) {
                fewest++;
                covered = key + 2 * r;
            }
        }
        return fewest;
    }

    public int needed() {
        int most = 0;
        for (int beat = 0; beat < BEATS; beat++) {
            most = Math.max(most, Integer.bitCount(now.notesAt(beat)));
        }
        return most;
    }

    // ---- what is left over without a hand, with one more, or with notes elsewhere

    public int missed() {
        int found = NONE;
        int most = -1;
        for (int hand = 0; hand < now.hands; hand++) {
            int missing = leftovers.missedOf(now, hand);
            if (missing > most) {
                most = missing;
                found = hand;
            }
        }
        return found;
    }

    public int spare() {
        int bits = 0;
        for (int hand = 0; hand < now.hands; hand++) {
            if (leftovers.missedOf(now, hand) == 0) {
                bits |= 1 << hand;
            }
        }
        return bits;
    }

    public int best() {
        draft.copyFrom(now);
        return leftovers.bestKey(draft);
    }

    public int clean() {
        return leftovers.cleanNotes(now);
    }

    public int better(int note) throws IndexOutOfBoundsException, IllegalStateException {
        checkNote(note);
        if (!now.isStanding(note)) {
            throw new IllegalStateException("the note is struck out");
        }
        draft.copyFrom(now);
        return leftovers.betterBeat(draft, note);
    }

    // ---- tunes and chords

    public int tune(int beat, boolean high) throws IndexOutOfBoundsException {
        checkBeat(beat);
        long keys = now.keysAt(beat);
        if (keys == 0) {
            return NONE;
        }
        return high ? highestKey(keys) : Long.numberOfTrailingZeros(keys);
    }

    public int steps(int step) {
        gatherTune();
        int found = 0;
        for (int i = 1; i < tuneLength; i++) {
            if (tuneKeys[i] - tuneKeys[i - 1] == step) {
                found++;
            }
        }
        return found;
    }

    public int next() throws IllegalArgumentException {
        int told = tape.useUp();
        if (!tape.isKeyRow(told)) {
            throw new IllegalArgumentException("the tape is no row of keys");
        }
        gatherTune();
        for (int size = Math.min(told, tuneLength); size >= 0; size--) {
            int places = placesBehind(told, size);
            if (places != 0) {
                return oftenestKey(places);
            }
        }
        return NONE;
    }

    public int octaves() {
        int pairs = 0;
        for (int beat = 0; beat < BEATS; beat++) {
            long keys = now.keysAt(beat);
            for (int step = 12; step < KEYS; step += 12) {
                pairs += Long.bitCount(keys & keys >>> step);
            }
        }
        return pairs;
    }

    public int sevens() {
        int bits = 0;
        for (int beat = 0; beat < BEATS; beat++) {
            if (Integer.bitCount(now.notesAt(beat)) >= 7) {
                bits |= 1 << beat;
            }
        }
        return bits;
    }

    public int like() {
        int pairs = 0;
        for (int beat = 0; beat < BEATS; beat++) {
            long keys = now.keysAt(beat);
            for (int other = beat + 1; keys != 0 && other < BEATS; other++) {
                if (now.keysAt(other) == keys) {
                    pairs++;
                }
            }
        }
        return pairs;
    }

    // ---- whose part it is

    public int whose(boolean narrow) throws IllegalArgumentException {
        int told = tape.useUp();
        if (!tape.isNoteRows(told, now.notes)) {
            throw new IllegalArgumentException("the tape is no rows of notes");
        }
        guess.weigh(now, told);
        return narrow ? guess.narrowest : guess.fitting;
    }

    public int ask() throws IllegalArgumentException {
        int told = tape.useUp();
        if (!tape.isNoteRows(told, now.notes)) {
            throw new IllegalArgumentException("the tape is no rows of notes");
        }
        guess.weigh(now, told);
        return guess.noteToAsk(now);
    }

    // ---- players

    public int trade(int player, int other) throws IndexOutOfBoundsException, IllegalArgumentException {
        checkPlayer(player);
        checkPlayer(other);
        if (player == other) {
            throw new IllegalArgumentException("both players are one");
        }
        draft.copyFrom(now);
        int least = loadGap(player, other);
        int found = NONE;
        for (int hand = 0; hand < now.hands; hand++) {
            for (int with = 0; with < now.hands; with++) {
                if (now.player[hand] == player && now.player[with] == other) {
                    draft.changePlayers(hand, with);
                    int gap = loadGap(player, other);
                    draft.changePlayers(hand, with);
                    if (gap < least) {
                        least = gap;
                        found = 6 * hand + with;
                    }
                }
            }
        }
        return found;
    }

    public int load(int player) throws IndexOutOfBoundsException {
        checkPlayer(player);
        return loadOf(now, player);
    }

    public boolean sure(int hand, int other, int beat) throws IndexOutOfBoundsException, IllegalArgumentException {
        checkHand(hand);
        checkHand(other);
        checkBeat(beat);
        if (hand == other) {
            throw new IllegalArgumentException("both hands are one");
        }
        way.find(now, beat);
        return bothHold(hand, other) && !couldChangeNotes(hand, other);
    }

    public int doubt(int beat) throws IndexOutOfBoundsException {
        checkBeat(beat);
        way.find(now, beat);
        int pairs = 0;
        for (int hand = 0; hand < now.hands; hand++) {
            for (int other = hand + 1; other < now.hands; other++) {
                if (bothHold(hand, other) && couldChangeNotes(hand, other)) {
                    pairs++;
                }
            }
        }
        return pairs;
    }

    // ---- odds and choices

    public int chance(int n, boolean odds) throws IllegalArgumentException {
        checkTurns(n, BEATS);
        int held = heldAhead(n);
        if (!odds) {
            return held;
        }
        int chances = 10000;
        for (int i = 0; i < held; i++) {
            chances = chances * (100 - now.slip) / 100;
        }
        return chances;
    }

    public int expect() {
        return heldAhead(BEATS) * now.slip / 100;
    }

    public int worst(int player) throws IndexOutOfBoundsException {
        checkPlayer(player);
        int found = NONE;
        int most = -1;
        for (int hand = 0; hand < now.hands; hand++) {
            if (now.player[hand] == player && now.tired[hand] > most) {
                most = now.tired[hand];
                found = hand;
            }
        }
        return found;
    }

    public int rests(int hand) throws IndexOutOfBoundsException {
        checkHand(hand);
        int missing = leftovers.missedOf(now, hand);
        int bits = 0;
        for (int choice = 0; choice < 4; choice++) {
            boolean handStays = handGain(choice, missing) >= handGain(choice ^ 2, missing);
            boolean thirdStays = thirdGain(choice, missing) >= thirdGain(choice ^ 1, missing);
            if (handStays && thirdStays) {
                bits |= 1 << choice;
            }
        }
        return bits;
    }

    public int free() {
        way.find(now, now.beat);
        int bits = 0;
        for (int hand = 0; hand < now.hands; hand++) {
            if (way.noteOf[hand] == NONE) {
                bits |= 1 << hand;
            }
        }
        return bits;
    }

    public int span(int player) throws IndexOutOfBoundsException {
        checkPlayer(player);
        int lowest = KEYS;
        int highest = -1;
        for (int hand = 0; hand < now.hands; hand++) {
            if (now.player[hand] == player) {
                lowest = Math.min(lowest, now.at[hand]);
                highest = Math.max(highest, now.at[hand]);
            }
        }
        return Math.max(0, highest - lowest);
    }

    public int cross() {
        int pairs = 0;
        for (int hand = 0; hand < now.hands; hand++) {
            for (int other = 0; other < now.hands; other++) {
                if (now.player[hand] < now.player[other] && now.at[hand] > now.at[other]) {
                    pairs++;
                }
            }
        }
        return pairs;
    }

    public int hardest() {
        int found = NONE;
        int most = -1;
        for (int note = 0; note < now.notes; note++) {
            if (now.isStanding(note) && now.hardOf[note] > most) {
                most = now.hardOf[note];
                found = note;
            }
        }
        return found;
    }

    public int alike() {
        int pairs = 0;
        for (int hand = 0; hand < now.hands; hand++) {
            for (int other = hand + 1; other < now.hands; other++) {
                if (now.reach[hand] == now.reach[other] && now.skill[hand] == now.skill[other]) {
                    pairs++;
                }
            }
        }
        return pairs;
    }

    // ---- looks ahead

    public int tires() {
        draft.copyFrom(now);
        for (int n = 0; n <= TURNS_MOST; n++) {
            for (int hand = 0; hand < draft.hands; hand++) {
                if (draft.tired[hand] >= 50) {
                    return n;
                }
            }
            turns.playBeat(draft, false);
        }
        return NONE;
    }

    public int ahead(int hand, int n, int what)
            throws IndexOutOfBoundsException, IllegalArgumentException, NoSuchElementException {
        checkHand(hand);
        checkTurns(n, TURNS_MOST);
        if (what < 0 || what > 1) {
            throw new NoSuchElementException("no such what of a hand ahead");
        }
        draft.copyFrom(now);
        for (int i = 0; i < n; i++) {
            turns.playBeat(draft, false);
        }
        return what == 0 ? draft.at[hand] : draft.tired[hand];
    }

    public int trial(int n, boolean lost) throws IllegalArgumentException {
        checkTurns(n, TURNS_MOST);
        tryTurns(n, now.seed);
        return draft.came[lost ? LOST : SLIPPED];
    }

    public int bounds(int n, boolean most) throws IllegalArgumentException {
        checkTurns(n, TURNS_MOST);
        int least = COUNT_MOST;
        int greatest = 0;
        for (int from = 1; from <= 6; from++) {
            tryTurns(n, from);
            least = Math.min(least, draft.came[SLIPPED]);
            greatest = Math.max(greatest, draft.came[SLIPPED]);
        }
        return most ? greatest : least;
    }

    // ---- the log, acts undone, the image

    public int led(int note, boolean hand) throws IndexOutOfBoundsException {
        checkNote(note);
        return hand ? now.log.latestHandOf(note) : now.log.rowsOf(note);
    }

    public int log(int ago, int what) throws NoSuchElementException {
        if (what < 0 || what > 3) {
            throw new NoSuchElementException("no such what of a row");
        }
        if (ago < 0 || ago >= now.log.size) {
            return NO_ROW;
        }
        int row = now.log.rowAgo(ago);
        switch (what) {
            case 0: return Log.pageIn(row);
            case 1: return Log.noteIn(row);
            case 2: return Log.handIn(row);
            default: return Log.kindIn(row);
        }
    }

    public int seed(int n) {
        int was = now.seed;
        now.seed = n;
        return was;
    }

    public boolean undo() {
        return past.restore(now);
    }

    public void image() {
        image.copyFrom(now);
        imageLaw.copyFrom(law);
        imaged = true;
    }

    public boolean back() {
        if (!imaged) {
            return false;
        }
        now.copyFrom(image);
        law.copyFrom(imageLaw);
        past.forget();
        return true;
    }

    public int count(int what) {
        switch (what) {
            case 0: return now.hands;
            case 1: return now.notes;
            case 2: return now.texts;
            case 3: return law.lines;
            case 4: return now.beat;
            case 5: return now.page;
            case 6: return now.slip;
            case 7: return now.came[PLAYED];
            case 8: return now.came[SLIPPED];
            case 9: return now.came[TAKEN];
            case 10: return now.came[LOST];
            case 11: return ((1 << now.notes) - 1) & ~now.struck;
            case 12: return now.log.size;
            case 13: return past.size;
            default: return NONE;
        }
    }

    // ---- what several calls share

    private void checkHand(int hand) {
        if (hand < 0 || hand >= now.hands) {
            throw new IndexOutOfBoundsException("no such hand");
        }
    }

    private void checkNote(int note) {
        if (note < 0 || note >= now.notes) {
            throw new IndexOutOfBoundsException("no such note");
        }
    }

    private static void checkBeat(int beat) {
        if (beat < 0 || beat >= BEATS) {
            throw new IndexOutOfBoundsException("no such beat");
        }
    }

    private static void checkPlayer(int player) {
        if (player < 0 || player >= PLAYERS) {
            throw new IndexOutOfBoundsException("no such player");
        }
    }

    private static void checkTurns(int n, int most) {
        if (n < 0 || n > most) {
            throw new IllegalArgumentException("no such number of turns");
        }
    }

    private static int withBit(int bits, int place, boolean is) {
        return is ? bits | 1 << place : bits & ~(1 << place);
    }

    private int leftAhead() {
        draft.copyFrom(now);
        int left = 0;
        for (int i = 0; i < BEATS; i++) {
            left += turns.playBeat(draft, false);
        }
        return left;
    }

    private int heldAhead(int n) {
        draft.copyFrom(now);
        int held = 0;
        for (int i = 0; i < n; i++) {
            int size = Integer.bitCount(draft.notesAt(draft.beat));
            held += size - turns.playBeat(draft, false);
        }
        return held;
    }

    private void tryTurns(int n, int from) {
        draft.copyFrom(now);
        draft.seed = from;
        for (int i = 0; i < n; i++) {
            turns.playBeat(draft, true);
        }
    }

    /** The highest keys of the beats with notes, one behind another. */
    private void gatherTune() {
        tuneLength = 0;
        for (int beat = 0; beat < BEATS; beat++) {
            long keys = now.keysAt(beat);
            if (keys != 0) {
                tuneKeys[tuneLength] = highestKey(keys);
                tuneLength++;
            }
        }
    }

    private static int highestKey(long keys) {
        return KEYS - 1 - Long.numberOfLeadingZeros(keys);
    }

    /** The places of the tune, as bits, behind which the last keys told stand ahead. */
    private int placesBehind(int told, int size) {
        int places = 0;
        for (int place = size; place < tuneLength; place++) {
            boolean same = true;
            for (int i = 1; i <= size && same; i++) {
                same = tuneKeys[place - i] == tape.bytes[told - i];
            }
            if (same) {
                places |= 1 << place;
            }
        }
        return places;
    }

    private int oftenestKey(int places) {
        int found = NONE;
        int most = 0;
        for (int key = 0; key < KEYS; key++) {
            int often = 0;
            for (int place = 0; place < tuneLength; place++) {
                if ((places >> place & 1) != 0 && tuneKeys[place] == key) {
                    often++;
                }
            }
            if (often > most) {
                most = often;
                found = key;
            }
        }
        return found;
    }

    private int loadGap(int player, int other) {
        return Math.abs(loadOf(draft, player) - loadOf(draft, other));
    }

    private int loadOf(State s, int player) {
        int held = 0;
        for (int beat = 0; beat < BEATS; beat++) {
            way.find(s, beat);
            for (int hand = 0; hand < s.hands; hand++) {
                if (s.player[hand] == player && way.noteOf[hand] != NONE) {
                    held++;
                }
            }
        }
        return held;
    }

    private boolean bothHold(int hand, int other) {
        return way.noteOf[hand] != NONE && way.noteOf[other] != NONE;
    }

    private boolean couldChangeNotes(int hand, int other) {
        return law.isAble(now, hand, way.noteOf[other]) && law.isAble(now, other, way.noteOf[hand]);
    }

    private static int handGain(int choice, int missing) {
        switch (choice) {
            case 0: return missing - 2;
            case 1: return missing;
            case 2: return 1;
            default: return -missing;
        }
    }

    private static int thirdGain(int choice, int missing) {
        switch (choice) {
            case 0: return -1;
            case 2: return missing;
            default: return 0;
        }
    }

    /** All that acts and turns change, and the piece itself. */
    private static final class State {
        // The rows of hands have a place more than there may be hands: best() tries one more.
        final int[] player = new int[HANDS_MOST + 1];
        final int[] at = new int[HANDS_MOST + 1];
        final int[] reach = new int[HANDS_MOST + 1];
        final int[] skill = new int[HANDS_MOST + 1];
        final int[] tired = new int[HANDS_MOST + 1];
        final int[] beatOf = new int[NOTES_MOST];
        final int[] keyOf = new int[NOTES_MOST];
        final int[] hardOf = new int[NOTES_MOST];
        final int[] came = new int[4];
        final Log log = new Log();
        int hands;
        int notes;
        int bound;
        int struck;
        int texts;
        int beat;
        int page;
        int slip;
        int seed = 1;

        void copyFrom(State other) {
            copyHands(other);
            System.arraycopy(other.beatOf, 0, beatOf, 0, NOTES_MOST);
            System.arraycopy(other.keyOf, 0, keyOf, 0, NOTES_MOST);
            System.arraycopy(other.hardOf, 0, hardOf, 0, NOTES_MOST);
            System.arraycopy(other.came, 0, came, 0, 4);
            log.copyFrom(other.log);
            notes = other.notes;
            struck = other.struck;
            texts = other.texts;
            beat = other.beat;
            page = other.page;
            slip = other.slip;
            seed = other.seed;
        }

        private void copyHands(State other) {
            System.arraycopy(other.player, 0, player, 0, HANDS_MOST);
            System.arraycopy(other.at, 0, at, 0, HANDS_MOST);
            System.arraycopy(other.reach, 0, reach, 0, HANDS_MOST);
            System.arraycopy(other.skill, 0, skill, 0, HANDS_MOST);
            System.arraycopy(other.tired, 0, tired, 0, HANDS_MOST);
            hands = other.hands;
            bound = other.bound;
        }

        void addHand(int of, int key, int far, int able) {
            if (hands >= player.length) {
                return;
            }
            player[hands] = of;
            at[hands] = key;
            reach[hands] = far;
            skill[hands] = able;
            tired[hands] = 0;
            bound &= ~(1 << hands);
            hands++;
        }

        void addNote(int key, int onBeat, int hard) {
            if (notes >= NOTES_MOST) {
                return;
            }
            keyOf[notes] = key;
            beatOf[notes] = onBeat;
            hardOf[notes] = hard;
            struck &= ~(1 << notes);
            notes++;
        }

        void changePlayers(int hand, int other) {
            int kept = player[hand];
            player[hand] = player[other];
            player[other] = kept;
        }

        boolean isStanding(int note) {
            return (struck >> note & 1) == 0;
        }

        /** Whether a note, but for one, stands at a beat with a key. */
        boolean isOccupied(int onBeat, int key, int but) {
            for (int note = 0; note < notes; note++) {
                if (note != but && isStanding(note) && beatOf[note] == onBeat && keyOf[note] == key) {
                    return true;
                }
            }
            return false;
        }

        int notesAt(int onBeat) {
            int bits = 0;
            for (int note = 0; note < notes; note++) {
                if (beatOf[note] == onBeat && isStanding(note)) {
                    bits |= 1 << note;
                }
            }
            return bits;
        }

        long keysAt(int onBeat) {
            long bits = 0;
            for (int note = 0; note < notes; note++) {
                if (beatOf[note] == onBeat && isStanding(note)) {
                    bits |= 1L << keyOf[note];
                }
            }
            return bits;
        }

        boolean drawsSlip() {
            seed = 1103515245 * seed + 12345;
            return (seed >>> 16 & 0x7fff) % 100 < slip;
        }

        void enter(int note, int hand, int kind) {
            came[kind] = Math.min(COUNT_MOST, came[kind] + 1);
            log.add(page, note, hand, kind);
        }
    }

    /** The latest notes that came, a number for each row, so that states are cheap to keep. */
    private static final class Log {
        private static final int MOST = 60;
        private final int[] rows = new int[MOST];
        private int newest;
        int size;

        void copyFrom(Log other) {
            System.arraycopy(other.rows, 0, rows, 0, MOST);
            newest = other.newest;
            size = other.size;
        }

        void add(int page, int note, int hand, int kind) {
            newest = (newest + 1) % MOST;
            rows[newest] = page << 9 | note << 5 | hand + 1 << 2 | kind;
            size = Math.min(MOST, size + 1);
        }

        int rowAgo(int ago) {
            return rows[Math.floorMod(newest - ago, MOST)];
        }

        static int pageIn(int row) {
            return row >> 9;
        }

        static int noteIn(int row) {
            return row >> 5 & 15;
        }

        static int handIn(int row) {
            return (row >> 2 & 7) - 1;
        }

        static int kindIn(int row) {
            return row & 3;
        }

        int shareOf(int hand) {
            int all = 0;
            int own = 0;
            for (int ago = 0; ago < size; ago++) {
                int row = rowAgo(ago);
                if (kindIn(row) == PLAYED) {
                    all++;
                    own += handIn(row) == hand ? 1 : 0;
                }
            }
            return all == 0 ? 0 : own * 100 / all;
        }

        int rowsOf(int note) {
            int found = 0;
            for (int ago = 0; ago < size; ago++) {
                if (noteIn(rowAgo(ago)) == note) {
                    found++;
                }
            }
            return found;
        }

        int latestHandOf(int note) {
            for (int ago = 0; ago < size; ago++) {
                int row = rowAgo(ago);
                if (noteIn(row) == note) {
                    return handIn(row);
                }
            }
            return NONE;
        }
    }

    /** What was ahead of the latest acts. */
    private static final class Past {
        private static final int MOST = 12;
        private final State[] kept = new State[MOST];
        private int newest;
        int size;

        Past() {
            for (int i = 0; i < MOST; i++) {
                kept[i] = new State();
            }
        }

        void remember(State s) {
            newest = (newest + 1) % MOST;
            State place = kept[newest];
            if (place != null) {
                place.copyFrom(s);
                size = Math.min(MOST, size + 1);
            }
        }

        boolean restore(State s) {
            State latest = kept[newest];
            if (size == 0 || latest == null) {
                return false;
            }
            s.copyFrom(latest);
            newest = (newest + MOST - 1) % MOST;
            size--;
            return true;
        }

        void forget() {
            size = 0;
        }
    }

    /**
     * The law as a row of codes, each line's parts ahead of what joins them, so that it is worked through without
     * going deeper. Codes of names are the places of their values; numbers stand above all other codes.
     */
    private static final class Law {
        static final int MOST = 12;
        static final int FAR = 0;
        static final int NEAR = 1;
        static final int TAKE = 2;
        static final int HAND = 0;
        static final int KEY = 1;
        static final int HARD = 2;
        static final int TIRED = 3;
        static final int PLAYER = 4;
        static final int BEAT = 5;
        static final int PAGE = 6;
        static final int LEFT = 7;
        static final int LOW = 8;
        static final int NOT = 9;
        static final int ADD = 10;
        static final int LESS = 11;
        static final int MORE = 12;
        static final int AND = 13;
        static final int OR = 14;
        static final int LINE = 15;
        static final int NUMBER = 16;
        private static final int NAMES = 9;
        private static final int THIRD_HAND = 6;
        private static final int THIRD_PLAYER = 3;
        // Each of 7 levels leaves an or-part and an and-part open, and a comparison three numbers.
        private static final int DEEPEST = 20;

        private final int[] code = new int[TAPE_MOST];
        private final int[] kinds = new int[MOST];
        private final int[] amounts = new int[MOST];
        private final int[] values = new int[NAMES];
        private final int[] stack = new int[DEEPEST];
        private int length;
        private int takes;
        private int gain;
        private boolean taken;
        int lines = NONE;

        void copyFrom(Law other) {
            System.arraycopy(other.code, 0, code, 0, TAPE_MOST);
            System.arraycopy(other.kinds, 0, kinds, 0, MOST);
            System.arraycopy(other.amounts, 0, amounts, 0, MOST);
            length = other.length;
            takes = other.takes;
            lines = other.lines;
        }

        void clear() {
            length = 0;
            takes = 0;
            lines = 0;
        }

        void emit(int op) {
            if (length < TAPE_MOST) {
                code[length] = op;
                length++;
            }
        }

        void closeLine(int kind, int amount) {
            if (lines < 0 || lines >= MOST) {
                return;
            }
            kinds[lines] = kind;
            amounts[lines] = amount;
            lines++;
            takes += kind == TAKE ? 1 : 0;
            emit(LINE);
        }

        /** CAN. */
        boolean isAble(State s, int hand, int note) {
            if (hand < 0 || hand >= s.hands || note < 0 || note >= s.notes) {
                return false;
            }
            if ((s.bound >> hand & 1) != 0 || !s.isStanding(note)) {
                return false;
            }
            return s.skill[hand] - s.tired[hand] / 10 >= s.hardOf[note]
                && Math.abs(s.keyOf[note] - s.at[hand]) <= reachOf(s, hand, note);
        }

        /** REACHES. */
        int reachOf(State s, int hand, int note) {
            if (hand < 0 || hand >= s.hands || note < 0 || note >= s.notes) {
                return 0;
            }
            values[HAND] = hand;
            values[TIRED] = s.tired[hand];
            values[PLAYER] = s.player[hand];
            values[LEFT] = s.keyOf[note] < s.at[hand] ? 1 : 0;
            work(s, note);
            return Math.max(0, s.reach[hand] + gain);
        }

        /** TAKES. */
        boolean takesNote(State s, int note) {
            if (note < 0 || note >= s.notes) {
                return false;
            }
            if (takes == 0) {
                return true;
            }
            values[HAND] = THIRD_HAND;
            values[TIRED] = 0;
            values[PLAYER] = THIRD_PLAYER;
            values[LEFT] = 0;
            work(s, note);
            return taken;
        }

        /** Works through all lines: what they add to a reach, and whether one that takes holds. */
        private void work(State s, int note) {
            values[KEY] = s.keyOf[note];
            values[HARD] = s.hardOf[note];
            values[BEAT] = s.beatOf[note];
            values[PAGE] = s.page;
            values[LOW] = s.keyOf[note] < 32 ? 1 : 0;
            gain = 0;
            taken = false;
            int line = 0;
            int top = 0;
            for (int i = 0; i < length; i++) {
                int op = code[i];
                if (op < NAMES || op >= NUMBER) {
                    if (top < DEEPEST) {
                        stack[top] = op >= NUMBER ? op - NUMBER : values[op];
                        top++;
                    }
                } else if (op == NOT) {
                    if (top >= 1) {
                        stack[top - 1] = 1 - stack[top - 1];
                    }
                } else if (op == LINE) {
                    if (top >= 1 && stack[top - 1] != 0 && line < MOST) {
                        gain += kinds[line] == FAR ? amounts[line] : -amounts[line];
                        taken |= kinds[line] == TAKE;
                    }
                    top = 0;
                    line++;
                } else if (top >= 2) {
                    top--;
                    int first = stack[top - 1];
                    int second = stack[top];
                    switch (op) {
                        case ADD:
                            stack[top - 1] = first + second;
                            break;
                        case LESS:
                            stack[top - 1] = first < second ? 1 : 0;
                            break;
                        case MORE:
                            stack[top - 1] = first > second ? 1 : 0;
                            break;
                        case AND:
                            stack[top - 1] = first & second;
                            break;
                        default:
                            stack[top - 1] = first | second;
                            break;
                    }
                }
            }
        }
    }

    /** The tape, and a reader that stands at one thing of its text: a word, a number, a sign, or the end. */
    private static final class Tape {
        private static final int END = 0;
        private static final int WORD = 1;
        private static final int NUMBER = 2;
        private static final int SIGN = 3;
        // Above all bounds, so that a number of too many digits is out of them all.
        private static final int TOO_LONG = 1000;

        final int[] bytes = new int[TAPE_MOST];
        int length;
        int wrong = NONE;
        int begin;
        private int textLength;
        private int behind;
        private int kind;
        private int number;

        void addNumber(int four) {
            for (int shift = 24; shift >= 0; shift -= 8) {
                if (length < TAPE_MOST) {
                    bytes[length] = four >>> shift & 255;
                    length++;
                }
            }
        }

        /** How many bytes the tape had; they can be read until others come. */
        int useUp() {
            int had = length;
            length = 0;
            return had;
        }

        boolean isKeyRow(int told) {
            if (told > 20) {
                return false;
            }
            for (int i = 0; i < told; i++) {
                if (bytes[i] >= KEYS) {
                    return false;
                }
            }
            return true;
        }

        boolean isNoteRows(int told, int notes) {
            if (told > 40 || told % 2 != 0) {
                return false;
            }
            for (int i = 0; i + 1 < told; i += 2) {
                if (bytes[i] >= notes || bytes[i + 1] > 1) {
                    return false;
                }
            }
            return true;
        }

        void open() {
            textLength = useUp();
            behind = 0;
            wrong = NONE;
            advance();
        }

        void advance() {
            int i = behind;
            while (i < textLength && bytes[i] == ' ') {
                i++;
            }
            begin = i;
            kind = END;
            number = 0;
            if (i < textLength) {
                int first = bytes[i];
                kind = first >= 'a' && first <= 'z' ? WORD : first >= '0' && first <= '9' ? NUMBER : SIGN;
            }
            if (kind == WORD) {
                while (i < textLength && bytes[i] >= 'a' && bytes[i] <= 'z') {
                    i++;
                }
            } else if (kind == NUMBER) {
                while (i < textLength && bytes[i] >= '0' && bytes[i] <= '9') {
                    number = i - begin < 3 ? 10 * number + bytes[i] - '0' : TOO_LONG;
                    i++;
                }
            } else if (kind == SIGN) {
                i++;
            }
            behind = i;
        }

        boolean isEnd() {
            return kind == END;
        }

        boolean isNumber() {
            return kind == NUMBER;
        }

        boolean isSign(char sign) {
            return kind == SIGN && bytes[begin] == sign;
        }

        boolean isWord(String word) {
            if (kind != WORD || behind - begin != word.length()) {
                return false;
            }
            for (int i = 0; i < word.length(); i++) {
                if (bytes[begin + i] != word.charAt(i)) {
                    return false;
                }
            }
            return true;
        }

        /** The text is wrong where the reader stands; always false, so that it can be answered at once. */
        boolean fail() {
            wrong = begin;
            return false;
        }

        boolean passWord(String word) {
            if (!isWord(word)) {
                return fail();
            }
            advance();
            return true;
        }

        boolean passSign(char sign) {
            if (!isSign(sign)) {
                return fail();
            }
            advance();
            return true;
        }

        /** The number at which the reader stands, or NONE, and the text is wrong there. */
        int passNumber(int most) {
            if (kind != NUMBER || number > most) {
                fail();
                return NONE;
            }
            int value = number;
            advance();
            return value;
        }
    }

    /** Reads a text of the piece into a draft. */
    private static final class PieceText {
        private static final int LINES_MOST = 14;
        private static final int PAGE_MOST = 999;
        private final Tape tape;
        private final State draft;

        PieceText(Tape tape, State draft) {
            this.tape = tape;
            this.draft = draft;
        }

        boolean read() {
            tape.open();
            if (tape.isEnd()) {
                return true;
            }
            for (int line = 0; line < LINES_MOST; line++) {
                if (!readLine()) {
                    return false;
                }
                if (tape.isEnd()) {
                    return true;
                }
                if (!tape.passSign(';')) {
                    return false;
                }
            }
            return tape.fail();
        }

        private boolean readLine() {
            if (tape.isWord("hand") && draft.hands < HANDS_MOST) {
                return readHand();
            }
            if (tape.isWord("note") && draft.notes < NOTES_MOST) {
                return readNote();
            }
            if (tape.isWord("slip")) {
                draft.slip = numberBehindWord(SLIP_MOST);
                return draft.slip != NONE;
            }
            if (tape.isWord("beat")) {
                draft.beat = numberBehindWord(BEATS - 1);
                return draft.beat != NONE;
            }
            if (tape.isWord("page")) {
                draft.page = numberBehindWord(PAGE_MOST);
                return draft.page != NONE;
            }
            return tape.fail();
        }

        private int numberBehindWord(int most) {
            tape.advance();
            return tape.passNumber(most);
        }

        private int numberBehind(String word, int most) {
            return tape.passWord(word) ? tape.passNumber(most) : NONE;
        }

        private boolean readHand() {
            tape.advance();
            int player = numberBehind("of", PLAYERS - 1);
            if (player == NONE) {
                return false;
            }
            int key = numberBehind("at", KEYS - 1);
            if (key == NONE) {
                return false;
            }
            int reach = numberBehind("reach", REACH_MOST);
            if (reach == NONE) {
                return false;
            }
            int skill = numberBehind("skill", SKILL_MOST);
            if (skill == NONE) {
                return false;
            }
            draft.addHand(player, key, reach, skill);
            return true;
        }

        private boolean readNote() {
            int key = numberBehindWord(KEYS - 1);
            if (key == NONE || !tape.passWord("at")) {
                return false;
            }
            int place = tape.begin;
            int beat = tape.passNumber(BEATS - 1);
            if (beat == NONE) {
                return false;
            }
            if (draft.isOccupied(beat, key, NONE)) {
                tape.wrong = place;
                return false;
            }
            int hard = 0;
            if (tape.isWord("hard")) {
                hard = numberBehindWord(HARD_MOST);
            }
            if (hard == NONE) {
                return false;
            }
            draft.addNote(key, beat, hard);
            return true;
        }
    }

    /** Reads the text of a law into a draft. */
    private static final class LawText {
        private static final int AMOUNT_MOST = 40;
        private static final int NUMBER_MOST = 999;
        private static final int DEPTH_MOST = 6;
        private final Tape tape;
        final Law draft = new Law();

        LawText(Tape tape) {
            this.tape = tape;
        }

        boolean read() {
            draft.clear();
            tape.open();
            if (tape.isEnd()) {
                return true;
            }
            for (int line = 0; line < Law.MOST; line++) {
                int kind = tape.isWord("far") ? Law.FAR : tape.isWord("near") ? Law.NEAR : Law.TAKE;
                if (kind == Law.TAKE && !tape.isWord("take")) {
                    return tape.fail();
                }
                tape.advance();
                int amount = kind == Law.TAKE ? 0 : tape.passNumber(AMOUNT_MOST);
                if (amount == NONE) {
                    return false;
                }
                if (!tape.isWord("if")) {
                    draft.emit(Law.NUMBER + 1);
                } else {
                    tape.advance();
                    if (!readAny(0)) {
                        return false;
                    }
                }
                draft.closeLine(kind, amount);
                if (tape.isEnd()) {
                    return true;
                }
                if (!tape.passSign(';')) {
                    return false;
                }
            }
            return tape.fail();
        }

        private boolean readAny(int depth) {
            if (!readAll(depth)) {
                return false;
            }
            for (int i = 0; i < TAPE_MOST && tape.isWord("or"); i++) {
                tape.advance();
                if (!readAll(depth)) {
                    return false;
                }
                draft.emit(Law.OR);
            }
            return true;
        }

        private boolean readAll(int depth) {
            if (!readAtom(depth)) {
                return false;
            }
            for (int i = 0; i < TAPE_MOST && tape.isWord("and"); i++) {
                tape.advance();
                if (!readAtom(depth)) {
                    return false;
                }
                draft.emit(Law.AND);
            }
            return true;
        }

        private boolean readAtom(int depth) {
            boolean negated = tape.isWord("not");
            if (negated || tape.isSign('(')) {
                if (depth >= DEPTH_MOST) {
                    return tape.fail();
                }
                tape.advance();
                return negated ? readNegated(depth + 1) : readAny(depth + 1) && tape.passSign(')');
            }
            if (tape.isWord("left") || tape.isWord("low")) {
                draft.emit(tape.isWord("left") ? Law.LEFT : Law.LOW);
                tape.advance();
                return true;
            }
            if (!readSum()) {
                return false;
            }
            int op = tape.isSign('<') ? Law.LESS : Law.MORE;
            if (op == Law.MORE && !tape.isSign('>')) {
                return tape.fail();
            }
            tape.advance();
            if (!readSum()) {
                return false;
            }
            draft.emit(op);
            return true;
        }

        private boolean readNegated(int depth) {
            if (!readAtom(depth)) {
                return false;
            }
            draft.emit(Law.NOT);
            return true;
        }

        private boolean readSum() {
            for (int i = 0; i < TAPE_MOST; i++) {
                if (tape.isNumber()) {
                    int value = tape.passNumber(NUMBER_MOST);
                    if (value == NONE) {
                        return false;
                    }
                    draft.emit(Law.NUMBER + value);
                } else {
                    int name = tape.isWord("hand") ? Law.HAND
                        : tape.isWord("key") ? Law.KEY
                        : tape.isWord("hard") ? Law.HARD
                        : tape.isWord("tired") ? Law.TIRED
                        : tape.isWord("player") ? Law.PLAYER
                        : tape.isWord("beat") ? Law.BEAT
                        : tape.isWord("page") ? Law.PAGE : NONE;
                    if (name == NONE) {
                        return tape.fail();
                    }
                    draft.emit(name);
                    tape.advance();
                }
                if (i > 0) {
                    draft.emit(Law.ADD);
                }
                if (!tape.isSign('+')) {
                    return true;
                }
                tape.advance();
            }
            return tape.fail();
        }
    }

    /** The way of a beat; what find() found stays to be looked at until the next one is sought. */
    private static final class Way {
        private static final int SETS = 1 << HANDS_MOST;
        // More than all hands together can go, so that a note more always counts more than the way to it.
        private static final int NOTE_WORTH = 1000;
        private final Law law;
        private final int[] list = new int[NOTES_MOST];
        private final int[] cans = new int[NOTES_MOST];
        private final int[] far = new int[NOTES_MOST * HANDS_MOST];
        // The hands that some note ahead of each one can have.
        private final int[] ahead = new int[NOTES_MOST + 1];
        private final int[] worth = new int[(NOTES_MOST + 1) * SETS];
        private int size;
        final int[] handOf = new int[NOTES_MOST];
        final int[] noteOf = new int[HANDS_MOST];
        int left;
        int distance;

        Way(Law law) {
            this.law = law;
        }

        void find(State s, int beat) {
            gather(s, beat);
            weigh();
            choose();
        }

        private void gather(State s, int beat) {
            int bits = s.notesAt(beat);
            size = 0;
            ahead[0] = 0;
            for (int note = 0; note < s.notes; note++) {
                handOf[note] = NONE;
                if ((bits >> note & 1) != 0) {
                    list[size] = note;
                    cans[size] = 0;
                    for (int hand = 0; hand < s.hands && hand < HANDS_MOST; hand++) {
                        cans[size] |= law.isAble(s, hand, note) ? 1 << hand : 0;
                        far[size * HANDS_MOST + hand] = Math.abs(s.keyOf[note] - s.at[hand]);
                    }
                    ahead[size + 1] = ahead[size] | cans[size];
                    size++;
                }
            }
        }

        /**
         * What the notes from each one on are worth at most, for each set of hands that those ahead of it may have
         * used; other sets are never asked for.
         */
        private void weigh() {
            for (int used = 0; used <= ahead[size]; used++) {
                worth[size * SETS + used] = 0;
            }
            for (int i = size - 1; i >= 0; i--) {
                for (int used = 0; used <= ahead[i]; used++) {
                    if ((used & ~ahead[i]) == 0) {
                        worth[i * SETS + used] = mostFrom(i, used);
                    }
                }
            }
        }

        private int mostFrom(int i, int used) {
            int most = worth[(i + 1) * SETS + used];
            for (int hand = 0; hand < HANDS_MOST; hand++) {
                if (isOpen(i, hand, used)) {
                    most = Math.max(most, worthWith(i, hand, used));
                }
            }
            return most;
        }

        private boolean isOpen(int i, int hand, int used) {
            return ((cans[i] & ~used) >> hand & 1) != 0;
        }

        private int worthWith(int i, int hand, int used) {
            return NOTE_WORTH - far[i * HANDS_MOST + hand] + worth[(i + 1) * SETS + (used | 1 << hand)];
        }

        private void choose() {
            for (int hand = 0; hand < HANDS_MOST; hand++) {
                noteOf[hand] = NONE;
            }
            left = 0;
            distance = 0;
            int used = 0;
            for (int i = 0; i < size; i++) {
                int hand = firstHand(i, used);
                if (hand == NONE) {
                    left |= 1 << list[i];
                } else {
                    distance += far[i * HANDS_MOST + hand];
                    handOf[list[i]] = hand;
                    noteOf[hand] = list[i];
                    used |= 1 << hand;
                }
            }
        }

        private int firstHand(int i, int used) {
            for (int hand = 0; hand < HANDS_MOST; hand++) {
                if (isOpen(i, hand, used) && worthWith(i, hand, used) == worth[i * SETS + used]) {
                    return hand;
                }
            }
            return NONE;
        }
    }

    /** Plays beats of a state: the one that is, or a draft of it. */
    private static final class Turns {
        private final Law law;
        private final Way way;

        Turns(Law law, Way way) {
            this.law = law;
            this.way = way;
        }

        /** A turn; how many notes were left over. Without draws nothing slips. */
        int playBeat(State s, boolean draws) {
            way.find(s, s.beat);
            playHeld(s, draws);
            easeOthers(s);
            leaveRest(s);
            passBeat(s);
            return Integer.bitCount(way.left);
        }

        private void playHeld(State s, boolean draws) {
            for (int note = 0; note < s.notes; note++) {
                int hand = way.handOf[note];
                if (hand != NONE) {
                    boolean slipped = draws && s.drawsSlip();
                    s.enter(note, hand, slipped ? SLIPPED : PLAYED);
                    s.at[hand] = s.keyOf[note];
                    s.tired[hand] = Math.min(TIRED_MOST, s.tired[hand] + s.hardOf[note] + 1);
                }
            }
        }

        private void easeOthers(State s) {
            for (int hand = 0; hand < s.hands && hand < HANDS_MOST; hand++) {
                if (way.noteOf[hand] == NONE) {
                    s.tired[hand] = Math.max(0, s.tired[hand] - 1);
                }
            }
        }

        private void leaveRest(State s) {
            for (int note = 0; note < s.notes; note++) {
                if ((way.left >> note & 1) != 0) {
                    s.enter(note, NONE, law.takesNote(s, note) ? TAKEN : LOST);
                }
            }
        }

        private static void passBeat(State s) {
            s.beat++;
            if (s.beat >= BEATS) {
                s.beat = 0;
                s.page = Math.min(COUNT_MOST, s.page + 1);
            }
        }
    }

    /** What is left over in all beats, each by all as it is, with other hands or with notes elsewhere. */
    private static final class Leftovers {
        private static final int TRIED_PLAYER = 2;
        private static final int TRIED_REACH = 8;
        private static final int TRIED_SKILL = 9;
        private static final int PLACES = HANDS_MOST + 1;
        private final Law law;
        private final int[] cans = new int[NOTES_MOST];
        // Of each beat and hand: the note that it has.
        private final int[] held = new int[BEATS * PLACES];
        private int away;
        private int seen;

        Leftovers(Law law) {
            this.law = law;
        }

        int missedOf(State s, int hand) {
            gather(s);
            int with = Integer.bitCount(leave(s, 0));
            return Integer.bitCount(leave(s, 1 << hand)) - with;
        }

        int cleanNotes(State s) {
            gather(s);
            return leave(s, 0);
        }

        /** The draft gets a hand more. */
        int bestKey(State s) {
            int tried = s.hands;
            s.addHand(TRIED_PLAYER, 0, TRIED_REACH, TRIED_SKILL);
            gather(s);
            int found = 0;
            int fewest = NOTES_MOST + 1;
            for (int key = 0; key < KEYS; key++) {
                s.at[tried] = key;
                for (int note = 0; note < s.notes; note++) {
                    cans[note] = withBit(cans[note], tried, law.isAble(s, tried, note));
                }
                int left = Integer.bitCount(leave(s, 0));
                if (left < fewest) {
                    fewest = left;
                    found = key;
                }
            }
            return found;
        }

        /** The draft's note is put to each beat. */
        int betterBeat(State s, int note) {
            gather(s);
            int found = s.beatOf[note];
            int fewest = Integer.bitCount(leave(s, 0));
            for (int beat = 0; beat < BEATS; beat++) {
                if (!s.isOccupied(beat, s.keyOf[note], note)) {
                    s.beatOf[note] = beat;
                    cans[note] = handsFor(s, note);
                    int left = Integer.bitCount(leave(s, 0));
                    if (left < fewest) {
                        fewest = left;
                        found = beat;
                    }
                }
            }
            return found;
        }

        private void gather(State s) {
            for (int note = 0; note < s.notes; note++) {
                cans[note] = handsFor(s, note);
            }
        }

        private int handsFor(State s, int note) {
            int bits = 0;
            for (int hand = 0; hand < s.hands; hand++) {
                bits |= law.isAble(s, hand, note) ? 1 << hand : 0;
            }
            return bits;
        }

        /**
         * The fewest notes that are left over without the hands that are away; of several such sets the least as
         * bits. Notes that hands can have together are the free sets of a matroid, so taking every note that
         * can be taken, from the last one on, leaves the least.
         */
        private int leave(State s, int without) {
            away = without;
            for (int i = 0; i < BEATS * PLACES; i++) {
                held[i] = NONE;
            }
            int left = 0;
            for (int note = s.notes - 1; note >= 0; note--) {
                if (s.isStanding(note)) {
                    seen = 0;
                    if (!findsHand(note, PLACES * s.beatOf[note], 0)) {
                        left |= 1 << note;
                    }
                }
            }
            return left;
        }

        /** Whether a note gets a hand, for which other notes of its beat may have to change theirs. */
        private boolean findsHand(int note, int first, int depth) {
            if (depth > PLACES || note < 0 || note >= NOTES_MOST || first < 0 || first > held.length - PLACES) {
                return false;
            }
            for (int hand = 0; hand < PLACES; hand++) {
                if (((cans[note] & ~away & ~seen) >> hand & 1) != 0) {
                    seen |= 1 << hand;
                    int holder = held[first + hand];
                    if (holder == NONE || findsHand(holder, first, depth + 1)) {
                        held[first + hand] = note;
                        return true;
                    }
                }
            }
            return false;
        }
    }

    /** Which rules of the third one fit what is told of its notes. */
    private static final class Guess {
        private static final int OCTAVES = 8;
        private final Tape tape;
        private final int[] had = new int[NOTES_MOST];
        int fitting;
        int narrowest;

        Guess(Tape tape) {
            this.tape = tape;
        }

        void weigh(State s, int told) {
            fitting = 0;
            narrowest = NONE;
            for (int note = 0; note < NOTES_MOST; note++) {
                had[note] = 0;
            }
            for (int low = 0; low < OCTAVES; low++) {
                for (int high = low; high < OCTAVES; high++) {
                    for (int hard = 0; hard <= HARD_MOST; hard++) {
                        if (fits(s, told, low, high, hard)) {
                            admit(s, low, high, hard);
                        }
                    }
                }
            }
        }

        private boolean fits(State s, int told, int low, int high, int hard) {
            for (int i = 0; i + 1 < told; i += 2) {
                if (has(s, tape.bytes[i], low, high, hard) != (tape.bytes[i + 1] == 1)) {
                    return false;
                }
            }
            return true;
        }

        private static boolean has(State s, int note, int low, int high, int hard) {
            if (note < 0 || note >= s.notes) {
                return false;
            }
            int octave = s.keyOf[note] / 8;
            return low <= octave && octave <= high && s.hardOf[note] >= hard;
        }

        private void admit(State s, int low, int high, int hard) {
            fitting++;
            int octaves = high - low + 1;
            narrowest = narrowest == NONE ? octaves : Math.min(narrowest, octaves);
            for (int note = 0; note < s.notes; note++) {
                had[note] += has(s, note, low, high, hard) ? 1 : 0;
            }
        }

        int noteToAsk(State s) {
            if (fitting < 2) {
                return NONE;
            }
            int found = NONE;
            int least = fitting + 1;
            for (int note = 0; note < s.notes; note++) {
                int greater = Math.max(had[note], fitting - had[note]);
                if (greater < least) {
                    least = greater;
                    found = note;
                }
            }
            return found;
        }
    }
}
