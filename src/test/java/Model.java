import java.util.ArrayList;
import java.util.List;
import java.util.NoSuchElementException;

/**
 * The document once more, as slowly and plainly as can be: every choice is tried out. ModelTest calls it and
 * FourHands side by side.
 */
public final class Model {
    public static final int NONE = -1;

    static final class Hand {
        int player, at, reach, skill, tired;
        boolean bound;
    }

    static final class Note {
        int beat, key, hard;
        boolean struck;
    }

    /** A state, which is copied whole. */
    static final class All {
        List<Hand> hands = new ArrayList<>();
        List<Note> notes = new ArrayList<>();
        List<int[]> log = new ArrayList<>();
        int texts, beat, page, slip, seed = 1;
        int[] came = new int[4];
        List<List<String>> law;

        All copy() {
            All c = new All();
            for (Hand h : hands) {
                Hand d = new Hand();
                d.player = h.player; d.at = h.at; d.reach = h.reach; d.skill = h.skill; d.tired = h.tired; d.bound = h.bound;
                c.hands.add(d);
            }
            for (Note n : notes) {
                Note d = new Note();
                d.beat = n.beat; d.key = n.key; d.hard = n.hard; d.struck = n.struck;
                c.notes.add(d);
            }
            c.log.addAll(log);
            c.texts = texts; c.beat = beat; c.page = page; c.slip = slip; c.seed = seed;
            c.came = came.clone();
            c.law = law;
            return c;
        }
    }

    /** A text is wrong at a byte. */
    static final class Wrong extends Exception {
        private static final long serialVersionUID = 1;
        final int place;
        Wrong(int place) { this.place = place; }
    }

    private final List<Integer> tape = new ArrayList<>();
    private final List<All> past = new ArrayList<>();
    private All all = new All();
    private All kept;
    private int fault = NONE;

    // ---- texts

    private List<String> things;
    private List<Integer> places;
    private int thing;

    private void cut(List<Integer> bytes) {
        things = new ArrayList<>();
        places = new ArrayList<>();
        thing = 0;
        StringBuilder text = new StringBuilder();
        for (int b : bytes) text.append((char) b);
        java.util.regex.Matcher m = java.util.regex.Pattern.compile("[a-z]+|[0-9]+|[^ ]", java.util.regex.Pattern.DOTALL).matcher(text);
        while (m.find()) {
            things.add(m.group());
            places.add(m.start());
        }
        things.add("");
        places.add(text.length());
    }

    private String peek() { return things.get(thing); }
    private Wrong wrong() { return new Wrong(places.get(thing)); }

    private void want(String word) throws Wrong {
        if (!peek().equals(word)) throw wrong();
        thing++;
    }

    private int wantNumber(int most) throws Wrong {
        if (!peek().matches("[0-9]{1,3}") || Integer.parseInt(peek()) > most) throw wrong();
        return Integer.parseInt(things.get(thing++));
    }

    private All parsePiece(List<Integer> bytes) throws Wrong {
        cut(bytes);
        All a = all.copy();
        if (peek().isEmpty()) return a;
        for (int line = 1; ; line++) {
            if (line > 14) throw wrong();
            pieceLine(a);
            if (peek().isEmpty()) return a;
            want(";");
        }
    }

    private void pieceLine(All a) throws Wrong {
        String word = peek();
        if (word.equals("hand")) {
            if (a.hands.size() == 6) throw wrong();
            Hand h = new Hand();
            want("hand"); want("of"); h.player = wantNumber(2);
            want("at"); h.at = wantNumber(63);
            want("reach"); h.reach = wantNumber(40);
            want("skill"); h.skill = wantNumber(9);
            a.hands.add(h);
        } else if (word.equals("note")) {
            if (a.notes.size() == 14) throw wrong();
            Note n = new Note();
            want("note"); n.key = wantNumber(63);
            want("at");
            Wrong here = wrong();
            n.beat = wantNumber(11);
            for (Note o : a.notes) if (!o.struck && o.beat == n.beat && o.key == n.key) throw here;
            if (peek().equals("hard")) { want("hard"); n.hard = wantNumber(9); }
            a.notes.add(n);
        } else if (word.equals("slip")) { want("slip"); a.slip = wantNumber(100);
        } else if (word.equals("beat")) { want("beat"); a.beat = wantNumber(11);
        } else if (word.equals("page")) { want("page"); a.page = wantNumber(999);
        } else throw wrong();
    }

    private List<List<String>> parseLaw(List<Integer> bytes) throws Wrong {
        cut(bytes);
        List<List<String>> lines = new ArrayList<>();
        if (peek().isEmpty()) return lines;
        while (true) {
            if (lines.size() == 12) throw wrong();
            int from = thing;
            if (peek().equals("take")) thing++;
            else if (peek().equals("far") || peek().equals("near")) { thing++; wantNumber(40); }
            else throw wrong();
            if (peek().equals("if")) { thing++; condition(0); }
            lines.add(new ArrayList<>(things.subList(from, thing)));
            if (peek().isEmpty()) return lines;
            want(";");
        }
    }

    private void condition(int deep) throws Wrong {
        atom(deep);
        while (peek().equals("and") || peek().equals("or")) { thing++; atom(deep); }
    }

    private void atom(int deep) throws Wrong {
        if (peek().equals("not") || peek().equals("(")) {
            if (deep == 6) throw wrong();
            if (things.get(thing++).equals("not")) atom(deep + 1);
            else { condition(deep + 1); want(")"); }
        } else if (peek().equals("left") || peek().equals("low")) thing++;
        else { sum(); if (!peek().equals("<") && !peek().equals(">")) throw wrong(); thing++; sum(); }
    }

    private void sum() throws Wrong {
        while (true) {
            if (peek().matches("hand|key|hard|tired|player|beat|page")) thing++; else wantNumber(999);
            if (!peek().equals("+")) return;
            thing++;
        }
    }

    // ---- the law

    /** The truth of the condition of things from a place on, by cutting it at its weakest joint. */
    private static boolean holds(List<String> c, java.util.Map<String, Integer> scene) {
        int deep = 0;
        for (String joint : new String[] {"or", "and"}) {
            deep = 0;
            for (int i = c.size() - 1; i >= 0; i--) {
                if (c.get(i).equals(")")) deep++;
                if (c.get(i).equals("(")) deep--;
                if (deep == 0 && c.get(i).equals(joint)) {
                    boolean a = holds(c.subList(0, i), scene);
                    boolean b = holds(c.subList(i + 1, c.size()), scene);
                    return joint.equals("or") ? a || b : a && b;
                }
            }
        }
        if (c.get(0).equals("not")) return !holds(c.subList(1, c.size()), scene);
        if (c.get(0).equals("(")) return holds(c.subList(1, c.size() - 1), scene);
        if (c.size() == 1) return scene.get(c.get(0)) == 1;
        int at = Math.max(c.indexOf("<"), c.indexOf(">"));
        int a = total(c.subList(0, at), scene);
        int b = total(c.subList(at + 1, c.size()), scene);
        return c.get(at).equals("<") ? a < b : a > b;
    }

    private static int total(List<String> c, java.util.Map<String, Integer> scene) {
        int t = 0;
        for (String p : c) if (!p.equals("+")) t += scene.containsKey(p) ? scene.get(p) : Integer.parseInt(p);
        return t;
    }

    private static java.util.Map<String, Integer> scene(All a, int hand, int note) {
        java.util.Map<String, Integer> s = new java.util.HashMap<>();
        Note n = a.notes.get(note);
        Hand h = hand < 0 ? null : a.hands.get(hand);
        s.put("hand", h == null ? 6 : hand);
        s.put("tired", h == null ? 0 : h.tired);
        s.put("player", h == null ? 3 : h.player);
        s.put("left", h != null && n.key < h.at ? 1 : 0);
        s.put("low", n.key < 32 ? 1 : 0);
        s.put("key", n.key);
        s.put("hard", n.hard);
        s.put("beat", n.beat);
        s.put("page", a.page);
        return s;
    }

    private static boolean lineHolds(List<String> line, java.util.Map<String, Integer> scene) {
        int at = line.indexOf("if");
        return at < 0 || holds(line.subList(at + 1, line.size()), scene);
    }

    private static int reachOf(All a, int hand, int note) {
        int r = a.hands.get(hand).reach;
        if (a.law != null) for (List<String> l : a.law) {
            if (l.get(0).equals("take") || !lineHolds(l, scene(a, hand, note))) continue;
            r += (l.get(0).equals("far") ? 1 : -1) * Integer.parseInt(l.get(1));
        }
        return Math.max(0, r);
    }

    private static boolean takesNote(All a, int note) {
        boolean some = false;
        if (a.law != null) for (List<String> l : a.law) if (l.get(0).equals("take")) {
            some = true;
            if (lineHolds(l, scene(a, -1, note))) return true;
        }
        return !some;
    }

    private static boolean able(All a, int hand, int note) {
        Hand h = a.hands.get(hand);
        Note n = a.notes.get(note);
        return !n.struck && !h.bound && h.skill - h.tired / 10 >= n.hard && Math.abs(h.at - n.key) <= reachOf(a, hand, note);
    }

    // ---- ways

    static final class Way {
        List<Integer> notes = new ArrayList<>();
        int[] hand, best;
        int bestPut = -1, bestGo;
        int left() {
            int b = 0;
            for (int i = 0; i < notes.size(); i++) if (best[i] < 0) b |= 1 << notes.get(i);
            return b;
        }
        int noteOf(int h) {
            for (int i = 0; i < notes.size(); i++) if (best[i] == h) return notes.get(i);
            return NONE;
        }
    }

    private static Way way(All a, int beat) {
        Way w = new Way();
        for (int n = 0; n < a.notes.size(); n++) if (!a.notes.get(n).struck && a.notes.get(n).beat == beat) w.notes.add(n);
        w.hand = new int[w.notes.size()];
        boolean[][] can = new boolean[w.notes.size()][a.hands.size()];
        for (int i = 0; i < can.length; i++) for (int h = 0; h < can[i].length; h++) can[i][h] = able(a, h, w.notes.get(i));
        tryAll(a, w, can, 0, 0, 0, 0);
        return w;
    }

    private static void tryAll(All a, Way w, boolean[][] can, int i, int used, int put, int go) {
        if (put + w.notes.size() - i < w.bestPut) return;
        if (i == w.notes.size()) {
            if (put > w.bestPut || put == w.bestPut && go < w.bestGo) {
                w.bestPut = put; w.bestGo = go; w.best = w.hand.clone();
            }
            return;
        }
        for (int h = 0; h < a.hands.size(); h++) if (can[i][h] && (used >> h & 1) == 0) {
            w.hand[i] = h;
            tryAll(a, w, can, i + 1, used | 1 << h, put + 1, go + Math.abs(a.hands.get(h).at - a.notes.get(w.notes.get(i)).key));
        }
        w.hand[i] = NONE;
        tryAll(a, w, can, i + 1, used, put, go);
    }

    private static int leftIn(All a) {
        int left = 0;
        for (int b = 0; b < 12; b++) left += Integer.bitCount(way(a, b).left());
        return left;
    }

    private static int playOne(All a, boolean draws) {
        Way w = way(a, a.beat);
        boolean[] takes = new boolean[a.notes.size()];
        for (int n = 0; n < takes.length; n++) takes[n] = takesNote(a, n);
        boolean[] busy = new boolean[a.hands.size()];
        for (int i = 0; i < w.notes.size(); i++) if (w.best[i] >= 0) {
            int kind = 0;
            if (draws) {
                a.seed = 1103515245 * a.seed + 12345;
                if (((a.seed & 0x7fff0000) >> 16) % 100 < a.slip) kind = 1;
            }
            Hand h = a.hands.get(w.best[i]);
            Note n = a.notes.get(w.notes.get(i));
            busy[w.best[i]] = true;
            h.at = n.key;
            h.tired = Math.min(99, h.tired + n.hard + 1);
            enter(a, w.notes.get(i), w.best[i], kind);
        }
        for (int h = 0; h < busy.length; h++) if (!busy[h] && a.hands.get(h).tired > 0) a.hands.get(h).tired--;
        int left = 0;
        for (int i = 0; i < w.notes.size(); i++) if (w.best[i] < 0) {
            left++;
            enter(a, w.notes.get(i), NONE, takes[w.notes.get(i)] ? 2 : 3);
        }
        a.beat++;
        if (a.beat == 12) { a.beat = 0; a.page = Math.min(9999, a.page + 1); }
        return left;
    }

    private static void enter(All a, int note, int hand, int kind) {
        a.came[kind] = Math.min(9999, a.came[kind] + 1);
        a.log.add(0, new int[] {a.page, note, hand, kind});
        if (a.log.size() > 60) a.log.remove(60);
    }

    // ---- checks

    private void hasHand(int h) { if (h < 0 || h >= all.hands.size()) throw new IndexOutOfBoundsException(); }
    private void hasNote(int n) { if (n < 0 || n >= all.notes.size()) throw new IndexOutOfBoundsException(); }
    private static void within(int x, int below) { if (x < 0 || x >= below) throw new IndexOutOfBoundsException(); }
    private static void number(int n, int least, int most) { if (n < least || n > most) throw new IllegalArgumentException(); }
    private void remember() { past.add(0, all.copy()); if (past.size() > 12) past.remove(12); }

    private List<Integer> used() {
        List<Integer> t = new ArrayList<>(tape);
        tape.clear();
        return t;
    }

    // ---- the face

    public int feed(int a, int b, int c, int d, int e) {
        if (tape.size() > 380) return NONE;
        for (int x : new int[] {a, b, c, d, e}) for (byte y : java.nio.ByteBuffer.allocate(4).putInt(x).array()) tape.add(y & 255);
        return tape.size();
    }

    public boolean end(int n) {
        if (n < 0 || n > tape.size()) return false;
        while (tape.size() > n) tape.remove(tape.size() - 1);
        return true;
    }

    public int piece() {
        All a;
        try {
            a = parsePiece(used());
            fault = NONE;
        } catch (Wrong w) {
            fault = w.place;
            throw new IllegalArgumentException();
        }
        if (all.texts == 12) throw new UnsupportedOperationException();
        all = a;
        past.clear();
        return ++all.texts;
    }

    public int law() {
        try {
            all.law = parseLaw(used());
            fault = NONE;
            past.clear();
            return all.law.size();
        } catch (Wrong w) {
            fault = w.place;
            throw new IllegalArgumentException();
        }
    }

    public int fault() { return fault; }

    public int hand(int hand, int what) {
        hasHand(hand);
        Hand h = all.hands.get(hand);
        if (what < 0 || what > 7) throw new NoSuchElementException();
        if (what == 6) {
            int own = 0, sum = 0;
            for (int[] r : all.log) if (r[3] == 0) { sum++; if (r[2] == hand) own++; }
            return sum == 0 ? 0 : 100 * own / sum;
        }
        if (what == 7) return missing(hand);
        return new int[] {h.player, h.at, h.reach, h.skill, h.tired, h.bound ? 1 : 0}[what];
    }

    private int missing(int hand) {
        All a = all.copy();
        a.hands.get(hand).bound = true;
        return leftIn(a) - leftIn(all);
    }

    public int note(int note, int what) {
        hasNote(note);
        Note n = all.notes.get(note);
        if (what < 0 || what > 4) throw new NoSuchElementException();
        return new int[] {n.beat, n.key, n.hard, n.struck ? 1 : 0, takesNote(all, note) ? 1 : 0}[what];
    }

    public boolean can(int hand, int note) { hasHand(hand); hasNote(note); return able(all, hand, note); }
    public int reaches(int hand, int note) { hasHand(hand); hasNote(note); return reachOf(all, hand, note); }

    public int turn(int n) {
        number(n, 1, 60);
        remember();
        int left = 0;
        for (int i = 0; i < n; i++) left += playOne(all, true);
        return left;
    }

    public int put(int hand, int key) {
        hasHand(hand); within(key, 64);
        remember();
        int was = all.hands.get(hand).at;
        all.hands.get(hand).at = key;
        return was;
    }

    public int rest(int hand) {
        hasHand(hand);
        remember();
        int was = all.hands.get(hand).tired;
        all.hands.get(hand).tired = 0;
        return was;
    }

    public boolean bind(int hand, boolean is) {
        hasHand(hand);
        remember();
        boolean was = all.hands.get(hand).bound;
        all.hands.get(hand).bound = is;
        return was != is;
    }

    private boolean stands(int key, int beat, int but) {
        for (int n = 0; n < all.notes.size(); n++) {
            Note o = all.notes.get(n);
            if (n != but && !o.struck && o.key == key && o.beat == beat) return true;
        }
        return false;
    }

    public boolean strike(int note, boolean is) {
        hasNote(note);
        Note n = all.notes.get(note);
        if (!is && stands(n.key, n.beat, note)) throw new IllegalStateException();
        remember();
        boolean was = n.struck;
        n.struck = is;
        return was != is;
    }

    public int shift(int note, int beat) {
        hasNote(note); within(beat, 12);
        Note n = all.notes.get(note);
        if (n.beat == beat) throw new IllegalArgumentException();
        if (!n.struck && stands(n.key, beat, note)) throw new IllegalStateException();
        remember();
        int was = n.beat;
        n.beat = beat;
        return was;
    }

    public int slip(int n) {
        number(n, 0, 100);
        remember();
        int was = all.slip;
        all.slip = n;
        return was;
    }

    public void swap(int hand, int other) {
        hasHand(hand); hasHand(other);
        if (all.hands.get(hand).player == all.hands.get(other).player) throw new IllegalArgumentException();
        remember();
        exchange(all, hand, other);
    }

    private static void exchange(All a, int h, int o) {
        int p = a.hands.get(h).player;
        a.hands.get(h).player = a.hands.get(o).player;
        a.hands.get(o).player = p;
    }

    private List<Note> at(int beat) {
        List<Note> l = new ArrayList<>();
        for (Note n : all.notes) if (!n.struck && n.beat == beat) l.add(n);
        return l;
    }

    public int of(int beat) {
        within(beat, 12);
        int bits = 0;
        for (Note n : at(beat)) bits |= 1 << all.notes.indexOf(n);
        return bits;
    }

    public int holds(int beat, int hand) { within(beat, 12); hasHand(hand); return way(all, beat).noteOf(hand); }
    public int left(int beat) { within(beat, 12); return way(all, beat).left(); }
    public int go(int beat) { within(beat, 12); return way(all, beat).bestGo; }

    public int third(int beat) {
        within(beat, 12);
        int bits = 0;
        for (int n = 0; n < all.notes.size(); n++) if ((way(all, beat).left() >> n & 1) == 1 && takesNote(all, n)) bits |= 1 << n;
        return bits;
    }

    public int full() {
        int found = NONE;
        for (int b = 11; b >= 0; b--) if (at(b).size() > 0 && (found < 0 || at(b).size() >= at(found).size())) found = b;
        return found;
    }

    public int part() {
        All a = all.copy();
        int left = 0;
        for (int i = 0; i < 12; i++) left += playOne(a, false);
        return left;
    }

    public boolean easy() { return part() == 0; }

    public int hands(int beat, int r) {
        within(beat, 12);
        number(r, 0, 40);
        java.util.TreeSet<Integer> keys = new java.util.TreeSet<>();
        for (Note n : at(beat)) keys.add(n.key);
        int hands = 0;
        while (!keys.isEmpty()) {
            int low = keys.first();
            keys.headSet(low + 2 * r, true).clear();
            hands++;
        }
        return hands;
    }

    public int needed() {
        int most = 0;
        for (int b = 0; b < 12; b++) most = Math.max(most, at(b).size());
        return most;
    }

    public int missed() {
        int found = NONE;
        for (int h = all.hands.size() - 1; h >= 0; h--) if (found < 0 || missing(h) >= missing(found)) found = h;
        return found;
    }

    public int spare() {
        int bits = 0;
        for (int h = 0; h < all.hands.size(); h++) if (missing(h) == 0) bits += 1 << h;
        return bits;
    }

    public int best() {
        int found = 0, fewest = 99;
        for (int k = 0; k < 64; k++) {
            All a = all.copy();
            Hand h = new Hand();
            h.player = 2; h.at = k; h.reach = 8; h.skill = 9;
            a.hands.add(h);
            int left = leftIn(a);
            if (left < fewest) { fewest = left; found = k; }
        }
        return found;
    }

    public int clean() {
        int found = -1;
        for (int set = 0; set < 1 << all.notes.size(); set++) {
            if (found >= 0 && Integer.bitCount(set) >= Integer.bitCount(found)) continue;
            boolean sensible = true;
            All a = all.copy();
            for (int n = 0; n < all.notes.size(); n++) if ((set >> n & 1) == 1) {
                sensible &= !a.notes.get(n).struck;
                a.notes.get(n).struck = true;
            }
            if (sensible && leftIn(a) == 0) found = set;
        }
        return found;
    }

    public int better(int note) {
        hasNote(note);
        if (all.notes.get(note).struck) throw new IllegalStateException();
        int own = all.notes.get(note).beat, found = own, fewest = leftIn(all);
        for (int b = 0; b < 12; b++) if (b != own && !stands(all.notes.get(note).key, b, note)) {
            All a = all.copy();
            a.notes.get(note).beat = b;
            if (leftIn(a) < fewest) { fewest = leftIn(a); found = b; }
        }
        return found;
    }

    public int tune(int beat, boolean high) {
        within(beat, 12);
        int k = NONE;
        for (Note n : at(beat)) if (k < 0 || (high ? n.key > k : n.key < k)) k = n.key;
        return k;
    }

    private List<Integer> highest() {
        List<Integer> l = new ArrayList<>();
        for (int b = 0; b < 12; b++) if (tune(b, true) >= 0) l.add(tune(b, true));
        return l;
    }

    public int steps(int step) {
        List<Integer> l = highest();
        int c = 0;
        for (int i = 1; i < l.size(); i++) if ((long) l.get(i - 1) + step == l.get(i)) c++;
        return c;
    }

    public int next() {
        List<Integer> told = used(), l = highest();
        if (told.size() > 20) throw new IllegalArgumentException();
        for (int k : told) if (k > 63) throw new IllegalArgumentException();
        for (int from = 0; from <= told.size(); from++) {
            List<Integer> end = told.subList(from, told.size());
            int[] often = new int[64];
            for (int i = 0; i + end.size() < l.size(); i++) if (l.subList(i, i + end.size()).equals(end)) often[l.get(i + end.size())]++;
            int found = NONE;
            for (int k = 0; k < 64; k++) if (often[k] > 0 && (found < 0 || often[k] > often[found])) found = k;
            if (found >= 0) return found;
        }
        return NONE;
    }

    public int octaves() {
        int c = 0;
        for (Note a : all.notes) for (Note b : all.notes)
            if (!a.struck && !b.struck && a.beat == b.beat && a.key < b.key && (b.key - a.key) % 12 == 0) c++;
        return c;
    }

    public int sevens() {
        int bits = 0;
        for (int b = 0; b < 12; b++) if (at(b).size() > 6) bits += 1 << b;
        return bits;
    }

    public int like() {
        int c = 0;
        for (int b = 0; b < 12; b++) for (int d = 0; d < b; d++) {
            java.util.Set<Integer> x = new java.util.HashSet<>(), y = new java.util.HashSet<>();
            for (Note n : at(b)) x.add(n.key);
            for (Note n : at(d)) y.add(n.key);
            if (!x.isEmpty() && x.equals(y)) c++;
        }
        return c;
    }

    private List<int[]> rules() {
        List<Integer> told = used();
        if (told.size() > 40 || told.size() % 2 == 1) throw new IllegalArgumentException();
        List<int[]> fit = new ArrayList<>();
        for (int i = 0; i < told.size(); i += 2) if (told.get(i) >= all.notes.size() || told.get(i + 1) > 1) throw new IllegalArgumentException();
        for (int r = 0; r < 640; r++) {
            int[] rule = {r / 80, r / 10 % 8, r % 10};
            boolean fits = rule[0] <= rule[1];
            for (int i = 0; i < told.size(); i += 2) fits &= had(rule, told.get(i)) == (told.get(i + 1) == 1);
            if (fits) fit.add(rule);
        }
        return fit;
    }

    private boolean had(int[] rule, int note) {
        Note n = all.notes.get(note);
        return n.key >= 8 * rule[0] && n.key < 8 * rule[1] + 8 && n.hard >= rule[2];
    }

    public int whose(boolean narrow) {
        List<int[]> fit = rules();
        if (!narrow) return fit.size();
        int least = 99;
        for (int[] r : fit) least = Math.min(least, r[1] - r[0] + 1);
        return least == 99 ? NONE : least;
    }

    public int ask() {
        List<int[]> fit = rules();
        int found = NONE, least = 9999;
        if (fit.size() > 1) for (int n = 0; n < all.notes.size(); n++) {
            int yes = 0;
            for (int[] r : fit) if (had(r, n)) yes++;
            int greater = Math.max(yes, fit.size() - yes);
            if (greater < least) { least = greater; found = n; }
        }
        return found;
    }

    private static int loadOf(All a, int player) {
        int c = 0;
        for (int b = 0; b < 12; b++) {
            Way w = way(a, b);
            for (int h : w.best) if (h >= 0 && a.hands.get(h).player == player) c++;
        }
        return c;
    }

    public int trade(int player, int other) {
        within(player, 3); within(other, 3);
        if (player == other) throw new IllegalArgumentException();
        int found = NONE, least = Math.abs(loadOf(all, player) - loadOf(all, other));
        for (int pair = 0; pair < 36; pair++) {
            int h = pair / 6, o = pair % 6;
            if (h >= all.hands.size() || o >= all.hands.size()) continue;
            if (all.hands.get(h).player != player || all.hands.get(o).player != other) continue;
            All a = all.copy();
            exchange(a, h, o);
            int gap = Math.abs(loadOf(a, player) - loadOf(a, other));
            if (gap < least) { least = gap; found = pair; }
        }
        return found;
    }

    public int load(int player) { within(player, 3); return loadOf(all, player); }

    public boolean sure(int hand, int other, int beat) {
        hasHand(hand); hasHand(other); within(beat, 12);
        if (hand == other) throw new IllegalArgumentException();
        int a = way(all, beat).noteOf(hand), b = way(all, beat).noteOf(other);
        return a >= 0 && b >= 0 && !(able(all, hand, b) && able(all, other, a));
    }

    public int doubt(int beat) {
        within(beat, 12);
        int c = 0;
        for (int h = 0; h < all.hands.size(); h++) for (int o = 0; o < h; o++)
            if (holds(beat, h) >= 0 && holds(beat, o) >= 0 && !sure(h, o, beat)) c++;
        return c;
    }

    public int chance(int n, boolean odds) {
        number(n, 0, 12);
        All a = all.copy();
        for (int i = 0; i < n; i++) playOne(a, false);
        All z = all.copy();
        z.came[0] = 0;
        for (int i = 0; i < n; i++) playOne(z, false);
        int c = z.came[0], o = 10000;
        for (int i = 0; i < c; i++) o = o * (100 - all.slip) / 100;
        return odds ? o : c;
    }

    public int expect() { return chance(12, false) * all.slip / 100; }

    public int worst(int player) {
        within(player, 3);
        int found = NONE;
        for (int h = all.hands.size() - 1; h >= 0; h--)
            if (all.hands.get(h).player == player && (found < 0 || all.hands.get(h).tired >= all.hands.get(found).tired)) found = h;
        return found;
    }

    public int rests(int hand) {
        hasHand(hand);
        int m = missing(hand), bits = 0;
        int[][] own = {{m - 2, m}, {1, -m}}, third = {{-1, 0}, {m, 0}};
        for (int h = 0; h < 2; h++) for (int t = 0; t < 2; t++)
            if (own[1 - h][t] <= own[h][t] && third[h][1 - t] <= third[h][t]) bits += 1 << 2 * h + t;
        return bits;
    }

    public int free() {
        int bits = 0;
        for (int h = 0; h < all.hands.size(); h++) if (way(all, all.beat).noteOf(h) < 0) bits += 1 << h;
        return bits;
    }

    public int span(int player) {
        within(player, 3);
        int most = 0;
        for (Hand a : all.hands) for (Hand b : all.hands) if (a.player == player && b.player == player) most = Math.max(most, a.at - b.at);
        return most;
    }

    public int cross() {
        int c = 0;
        for (int h = 0; h < all.hands.size(); h++) for (int o = 0; o < h; o++) {
            Hand a = all.hands.get(h), b = all.hands.get(o);
            if (a.player != b.player && (a.player < b.player ? a.at > b.at : b.at > a.at)) c++;
        }
        return c;
    }

    public int hardest() {
        int found = NONE;
        for (int n = all.notes.size() - 1; n >= 0; n--)
            if (!all.notes.get(n).struck && (found < 0 || all.notes.get(n).hard >= all.notes.get(found).hard)) found = n;
        return found;
    }

    public int tires() {
        All a = all.copy();
        for (int n = 0; n <= 60; n++) {
            for (Hand h : a.hands) if (h.tired >= 50) return n;
            playOne(a, false);
        }
        return NONE;
    }

    public int alike() {
        int c = 0;
        for (int h = 0; h < all.hands.size(); h++) for (int o = 0; o < h; o++)
            if (all.hands.get(h).reach == all.hands.get(o).reach && all.hands.get(h).skill == all.hands.get(o).skill) c++;
        return c;
    }

    public int ahead(int hand, int n, int what) {
        hasHand(hand);
        number(n, 0, 60);
        if (what != 0 && what != 1) throw new NoSuchElementException();
        All a = all.copy();
        for (int i = 0; i < n; i++) playOne(a, false);
        return what == 0 ? a.hands.get(hand).at : a.hands.get(hand).tired;
    }

    public int trial(int n, boolean lost) {
        number(n, 0, 60);
        All a = all.copy();
        for (int i = 0; i < n; i++) playOne(a, true);
        return a.came[lost ? 3 : 1];
    }

    public int bounds(int n, boolean most) {
        number(n, 0, 60);
        int[] got = new int[6];
        for (int from = 1; from <= 6; from++) {
            All a = all.copy();
            a.seed = from;
            for (int i = 0; i < n; i++) playOne(a, true);
            got[from - 1] = a.came[1];
        }
        java.util.Arrays.sort(got);
        return got[most ? 5 : 0];
    }

    public int led(int note, boolean hand) {
        hasNote(note);
        int rows = 0, latest = NONE;
        for (int[] r : all.log) if (r[1] == note && rows++ == 0) latest = r[2];
        return hand ? latest : rows;
    }

    public int log(int ago, int what) {
        if (what < 0 || what > 3) throw new NoSuchElementException();
        return ago < 0 || ago >= all.log.size() ? -2 : all.log.get(ago)[what];
    }

    public int seed(int n) { int was = all.seed; all.seed = n; return was; }

    public boolean undo() {
        if (past.isEmpty()) return false;
        all = past.remove(0);
        return true;
    }

    public void image() { kept = all.copy(); }

    public boolean back() {
        if (kept == null) return false;
        all = kept.copy();
        past.clear();
        return true;
    }

    public int count(int what) {
        int standing = 0;
        for (int b = 0; b < 12; b++) standing |= of(b);
        int[] c = {all.hands.size(), all.notes.size(), all.texts, all.law == null ? NONE : all.law.size(), all.beat, all.page,
            all.slip, all.came[0], all.came[1], all.came[2], all.came[3], standing, all.log.size(), past.size()};
        return what < 0 || what >= c.length ? NONE : c[what];
    }
}
