import java.util.ArrayList;
import java.util.List;
import java.util.function.Supplier;

/** The tape, texts of the piece and of the law (promises 2 to 6): each bound from both of its sides. */
public final class TextEdgesTest extends Checks {
    private static final String HAND = "hand of 0 at 1 reach 2 skill 3";

    public static void main(String[] args) {
        tape();
        pieceNumbers();
        pieceDigits();
        pieceLines();
        pieceSameKeys();
        pieceTexts();
        pieceBytes();
        pieceWords();
        pieceMoreMustCome();
        lawNumbers();
        lawLines();
        lawDepth();
        lawBytes();
        lawWords();
        lawMostOpen();
        lawMoreMustCome();
        lawMeaning();
        lawThird();
        lawForm();
        faults();
        report("TextEdgesTest");
    }

    // ---- the tape

    private static int feedBlanks(FourHands x) { return x.feed(0x20202020, 0x20202020, 0x20202020, 0x20202020, 0x20202020); }

    private static void tape() {
        promise = 2;
        says("how many it has; NONE, and none come, if it would have more than 400.");
        for (int had = 360; had <= 400; had++) {
            FourHands x = new FourHands();
            for (int i = 0; i < 20; i++) feedBlanks(x);
            x.end(had);
            is("feed behind " + had, feedBlanks(x), had <= 380 ? had + 20 : -1);
            int has = had <= 380 ? had + 20 : had;
            is("bytes behind it", x.end(has + 1), false);
            is("bytes behind it", x.end(has), true);
        }
        says("Twenty bytes come behind the TAPE, of each number the highest first");
        for (int place = 0; place < 20; place++) {
            int[] n = {0x20202020, 0x20202020, 0x20202020, 0x20202020, 0x20202020};
            n[place / 4] ^= 0xc0 << 24 - place % 4 * 8;
            FourHands x = new FourHands();
            feedBlanks(x);
            x.feed(n[0], n[1], n[2], n[3], n[4]);
            fails("piece", ARGUMENT, x::piece);
            is("the byte that is none", x.fault(), 20 + place);
        }

        promise = 3;
        says("The TAPE has its first n bytes alone: true; false, and nothing happens, if it has fewer, or n is below 0.");
        for (int has = 0; has <= 20; has++) {
            FourHands x = new FourHands();
            feedBlanks(x);
            x.end(has);
            for (int n : new int[] {Integer.MIN_VALUE, -1, has + 1, Integer.MAX_VALUE}) is("end(" + n + ") of " + has, x.end(n), false);
            is("end(" + has + ") of " + has, x.end(has), true);
            is("end(0) of " + has, x.end(0), true);
            is("end(1) of none", x.end(1), false);
        }
        FourHands x = new FourHands();
        tell(x, "slip 12");
        x.end(6);
        x.piece();
        is("the first bytes alone", x.count(6), 1);
        tell(x, "slip 1");
        x.end(5);
        x.feed(0x34302020, 0x20202020, 0x20202020, 0x20202020, 0x20202020);
        x.piece();
        is("behind those that are left", x.count(6), 40);
    }

    // ---- the piece

    /** The last number that is allowed stands, the first one that is not is wrong where it begins. */
    private static void number(String ahead, int least, int most, String behind) {
        for (int n : new int[] {least, most}) {
            FourHands x = new FourHands();
            fails("piece " + ahead + n + behind, null, () -> add(x, ahead + n + behind));
            is("fault()", x.fault(), -1);
        }
        wrongPiece(new FourHands(), ahead + (most + 1) + behind, ahead.length());
        wrongPiece(new FourHands(), ahead + 999 * (most == 999 ? 2 : 1) + behind, ahead.length());
        wrongPiece(new FourHands(), ahead + "-1" + behind, ahead.length());
    }

    private static void pieceNumbers() {
        promise = 4;
        says("PLAYER 0 to 2");
        number("hand of ", 0, 2, " at 1 reach 2 skill 3");
        says("KEYS 0 to 63");
        number("hand of 0 at ", 0, 63, " reach 2 skill 3");
        number("note ", 0, 63, " at 1");
        says("REACH 0 to 40");
        number("hand of 0 at 1 reach ", 0, 40, " skill 3");
        says("SKILL 0 to 9");
        number("hand of 0 at 1 reach 2 skill ", 0, 9, "");
        says("BEATS 0 to 11 of a page");
        number("note 1 at ", 0, 11, "");
        number("beat ", 0, 11, "");
        says("HARD 0 to 9");
        number("note 1 at 2 hard ", 0, 9, "");
        says("SLIP 0 to 100");
        number("slip ", 0, 100, "");
        says("page: 0 to 999.");
        number("page ", 0, 999, "");

        says("hand of N at N reach N skill N");
        FourHands x = piece("hand of 2 at 63 reach 40 skill 9;hand of 0 at 0 reach 0 skill 0");
        int[][] hands = {{2, 63, 40, 9, 0, 0}, {0, 0, 0, 0, 0, 0}};
        for (int h = 0; h < 2; h++) for (int what = 0; what < 6; what++) is("hand(" + h + ", " + what + ")", x.hand(h, what), hands[h][what]);
        says("hard: 0, if it is not told");
        FourHands y = piece("note 63 at 11 hard 9;note 0 at 0;note 1 at 0 hard 0");
        int[][] notes = {{11, 63, 9, 0}, {0, 0, 0, 0}, {0, 1, 0, 0}};
        for (int n = 0; n < 3; n++) for (int what = 0; what < 4; what++) is("note(" + n + ", " + what + ")", y.note(n, what), notes[n][what]);
    }

    private static void pieceDigits() {
        says("Numbers are of 1 to 3 digits.");
        String[] ahead = {"hand of ", "hand of 0 at ", "hand of 0 at 1 reach ", "hand of 0 at 1 reach 2 skill ", "note ", "note 1 at ", "note 1 at 2 hard ", "slip ", "beat ", "page "};
        String[] behind = {" at 1 reach 2 skill 3", " reach 2 skill 3", " skill 3", "", " at 1", "", "", "", "", ""};
        for (int i = 0; i < ahead.length; i++) {
            for (String digits : new String[] {"0", "00", "000", "001", "1", "01"}) {
                String text = ahead[i] + digits + behind[i];
                fails("piece " + text, null, () -> piece(text));
            }
            for (String digits : new String[] {"0000", "0001", "00000", "1000", "000000000000", "4294967296", "9999999999999999999999"}) {
                wrongPiece(new FourHands(), ahead[i] + digits + behind[i], ahead[i].length());
            }
        }
        is("leading zeros", piece("page 099").count(5), 99);
        is("leading zeros", piece("page 010").count(5), 10);
    }

    private static void pieceLines() {
        says("LINE { ; LINE }, at most 14");
        is("14 lines", add(new FourHands(), lines("slip 1", 14)), 1);
        wrongPiece(new FourHands(), lines("slip 1", 15), 14 * 7);
        wrongPiece(new FourHands(), lines("slip 1", 14) + ";   slip 1", 14 * 7 + 3);
        wrongPiece(new FourHands(), lines("slip 1", 14) + ";9", 14 * 7);
        wrongPiece(new FourHands(), lines("slip 1", 14) + ";", 14 * 7);
        wrongPiece(new FourHands(), lines("slip 1", 14) + ";  ", 14 * 7 + 2);
        wrongPiece(new FourHands(), lines("slip 1", 13) + ";", 13 * 7);

        says("HANDS (at most 6, numbered from 0 on)");
        FourHands x = new FourHands();
        for (int i = 0; i < 6; i++) {
            add(x, "hand of " + i % 3 + " at " + (50 + i) + " reach 1 skill 1");
            is("hands", x.count(0), i + 1);
            is("the last one", x.hand(i, 1), 50 + i);
        }
        wrongPiece(x, HAND, 0);
        wrongPiece(x, "  slip 1 ; " + HAND, 11);
        wrongPiece(x, "hand", 0);
        is("six in one text", add(new FourHands(), lines(HAND, 6)), 1);
        wrongPiece(new FourHands(), lines(HAND, 7), 6 * (HAND.length() + 1));
        wrongPiece(piece(HAND), lines(HAND, 6), 5 * (HAND.length() + 1));
        is("other lines behind six", add(x, "note 1 at 1;slip 1;beat 1;page 1"), 7);

        says("NOTES (at most 14, numbered from 0 on)");
        FourHands y = new FourHands();
        StringBuilder all = new StringBuilder();
        for (int i = 0; i < 7; i++) {
            add(y, "note " + (50 - 2 * i) + " at 3;note " + (49 - 2 * i) + " at 3");
            is("notes", y.count(1), 2 * i + 2);
            is("the last one", y.note(2 * i + 1, 1), 49 - 2 * i);
            all.append("note ").append(i).append(" at 0;note ").append(i).append(" at 1;");
        }
        wrongPiece(y, "note 1 at 1", 0);
        wrongPiece(y, "slip 1;note", 7);
        is("other lines behind fourteen", add(y, HAND + ";slip 1;beat 1;page 1"), 8);
        is("fourteen in one text", add(new FourHands(), all.substring(0, all.length() - 1)), 1);
        wrongPiece(piece("note 9 at 9"), all.substring(0, all.length() - 1), 13 * 12);
        y.strike(0, true);
        wrongPiece(y, "note 1 at 1", 0);
    }

    private static void pieceSameKeys() {
        says("a BEAT, at which no other NOTE has that KEY, else it is wrong at it");
        FourHands x = piece("note 5 at 5 hard 1");
        wrongPiece(x, "note 5 at 5", 10);
        wrongPiece(x, "note 05 at   005 hard 77", 13);
        wrongPiece(x, "note 6 at 5;note 6 at 5", 22);
        is("another beat", add(x, "note 5 at 4;note 5 at 6"), 2);
        is("another key", add(x, "note 4 at 5;note 6 at 5"), 3);
        x.shift(0, 7);
        is("where it was", add(x, "note 5 at 5"), 4);
        wrongPiece(x, "note 5 at 7", 10);
        x.strike(0, true);
        is("where it is struck out", add(x, "note 5 at 7"), 5);
        says("no two NOTES that are not STRUCK have one BEAT and one KEY");
        fails("it stands again", STATE, () -> x.strike(0, false));
    }

    private static void pieceTexts() {
        says("in texts (at most 12, one behind another)");
        FourHands x = new FourHands();
        for (int i = 1; i <= 12; i++) {
            is("text " + i, add(x, "slip " + i), i);
            is("texts", x.count(2), i);
            wrongPiece(x, "slip", 4);
            is("a wrong one does not count", x.count(2), i);
        }
        fails("a 13th one", UNSUPPORTED, () -> add(x, "slip 13"));
        fails("an empty 13th one", UNSUPPORTED, () -> add(x, ""));
        wrongPiece(x, "slip 101", 5);
        is("slip", x.count(6), 12);
        is("a law can come all the same", rule(x, "far 1"), 1);

        says("A text that is empty, or blanks alone, has no LINE.");
        FourHands y = new FourHands();
        is("an empty piece", add(y, ""), 1);
        is("blanks", add(y, " "), 2);
        for (int i = 0; i < 20; i++) feedBlanks(y);
        is("400 blanks", y.piece(), 3);
        is("an empty law", rule(y, ""), 0);
        is("a law of blanks", rule(y, "   "), 0);
        is("lines", y.count(3), 0);
        is("lines without a law", new FourHands().count(3), -1);
        is("fault", y.fault(), -1);
        StringBuilder long400 = new StringBuilder("slip 1");
        while (long400.length() < 393) long400.append(' ');
        is("a text of 400 bytes", add(y, long400 + ";slip 9"), 4);
        is("slip", y.count(6), 9);
        wrongPiece(y, long400 + ";slip  ", 400);
        wrongPiece(y, long400 + "      ;", 400);
        wrongPiece(y, long400 + "      9", 399);
    }

    /** For each byte: where a text is wrong, if it has it ahead, in a word, behind a number. */
    private static void pieceBytes() {
        says("Words are as long as a to z go on; between all there may be blanks (32), also ahead and behind.");
        for (int b = 0; b < 256; b++) {
            char c = (char) b;
            boolean letter = c >= 'a' && c <= 'z';
            boolean digit = c >= '0' && c <= '9';
            FourHands x = new FourHands();
            place(x, c + "slip 1", c == ' ' ? -1 : 0);
            place(x, "slip" + c + " 1", c == ' ' ? -1 : letter ? 0 : digit ? 6 : 4);
            place(x, "slip 1" + c, c == ' ' || digit ? -1 : c == ';' ? 7 : 6);
            place(x, "slip 1" + c + ";beat 1", c == ' ' || digit ? -1 : c == ';' ? 7 : 6);
            place(x, "sl" + c + "ip 1", 0);
        }
        fails("no blanks", null, () -> piece("hand of1at2reach3skill4;note5at6hard7;slip8;beat9;page10"));
        fails("many blanks", null, () -> piece("   hand   of  1 at  2  reach   3  skill   4  ;  note   5   at   6   hard   7  ;  page  8  "));
    }

    private static void place(FourHands x, String text, int due) {
        Class<?> how = thrown(() -> add(x, text));
        is("how \"" + text + "\" ends", String.valueOf(how), String.valueOf(due == -1 ? null : ARGUMENT));
        is("fault() of \"" + text + "\"", x.fault(), due);
    }

    private static void placeOfLaw(FourHands x, String text, int due) {
        Class<?> how = thrown(() -> rule(x, text));
        is("how \"" + text + "\" ends", String.valueOf(how), String.valueOf(due == -1 ? null : ARGUMENT));
        is("fault() of \"" + text + "\"", x.fault(), due);
    }

    /** A word that is none is wrong at its begin: with one letter less, one more, or another one. */
    private static List<String> noWords(String word) {
        List<String> none = new ArrayList<>();
        for (int i = 0; i < word.length(); i++) {
            none.add(word.substring(0, i) + (word.charAt(i) == 'z' ? 'a' : 'z') + word.substring(i + 1));
            none.add(word.substring(0, i) + (char) (word.charAt(i) - 32) + word.substring(i + 1));
            if (word.length() > 1) none.add(word.substring(0, i) + word.substring(i + 1));
        }
        none.add(word + "s");
        none.add("a" + word);
        return none;
    }

    private static void pieceWords() {
        says("a word that is none");
        String[] rows = {"hand of 0 at 1 reach 2 skill 3", "note 4 at 5 hard 6", "slip 7", "beat 8", "page 9"};
        for (String row : rows) {
            String[] things = row.split(" ");
            int at = 0;
            for (String thing : things) {
                if (Character.isLetter(thing.charAt(0))) {
                    for (String none : noWords(thing)) place(new FourHands(), row.substring(0, at) + none + row.substring(at + thing.length()), at);
                }
                at += thing.length() + 1;
            }
            place(new FourHands(), row, -1);
        }
    }

    private static void pieceMoreMustCome() {
        says("or the text's length, if more must come");
        String[][] rows = {{"hand", "of", "1", "at", "2", "reach", "3", "skill", "4"}, {"note", "5", "at", "6"}, {"slip", "7"}, {"beat", "8"}, {"page", "9"}};
        for (String[] row : rows) {
            StringBuilder text = new StringBuilder("slip 1;");
            for (int i = 0; i < row.length - 1; i++) {
                text.append(row[i]);
                place(new FourHands(), text.toString(), text.length());
                text.append(' ');
                place(new FourHands(), text.toString(), text.length());
                place(new FourHands(), text + ";", text.length());
                place(new FourHands(), text + "hard", text.length());
                place(new FourHands(), text + (Character.isDigit(row[i + 1].charAt(0)) ? "x" : "5"), text.length());
                place(new FourHands(), text + row[i], text.length());
            }
            text.append(row[row.length - 1]);
            place(new FourHands(), text.toString(), -1);
            place(new FourHands(), text + " 1", text.length() + 1);
            place(new FourHands(), text + " slip 1", text.length() + 1);
        }
        place(new FourHands(), "note 5 at 6 hard", 16);
        place(new FourHands(), "note 5 at 6 hard ;", 17);
        place(new FourHands(), "note 5 at 6 hard 7 hard 7", 19);
        place(new FourHands(), "note 5 at 6 7", 12);
        place(new FourHands(), "note 5 hard 7 at 6", 7);
    }

    // ---- the law

    private static FourHands one() { return piece("hand of 1 at 30 reach 10 skill 9;note 31 at 2 hard 4;note 32 at 3;note 30 at 4;note 29 at 5"); }

    private static void lawNumbers() {
        promise = 5;
        says("All numbers are of 1 to 3 digits (N 0 to 40).");
        FourHands x = one();
        for (String kind : new String[] {"far ", "near "}) {
            for (String n : new String[] {"0", "40", "00", "000", "040"}) placeOfLaw(x, kind + n, -1);
            for (String n : new String[] {"41", "041", "999", "1000", "0000", "0040", "-1", "4294967296"}) placeOfLaw(x, kind + n, kind.length());
        }
        rule(x, "far 40");
        is("far 40", x.reaches(0, 0), 50);
        rule(x, "near 040;far 40");
        is("near 40 and far 40", x.reaches(0, 0), 10);
        for (String n : new String[] {"0", "9", "999", "099", "000"}) {
            placeOfLaw(x, "take if " + n + " < 1", -1);
            placeOfLaw(x, "take if 1 > 1 + " + n, -1);
        }
        for (String n : new String[] {"1000", "0000", "0999", "4294967297", "-1"}) {
            placeOfLaw(x, "take if " + n + " < 1", 8);
            placeOfLaw(x, "take if 1 > 1 + " + n, 16);
        }
        says("REACH and the sum of N of all far LINES that hold, less that of all near LINES (0 at least).");
        for (int n = 8; n <= 12; n++) {
            rule(x, "near " + n);
            is("near " + n, x.reaches(0, 0), Math.max(0, 10 - n));
            rule(x, "near " + n + ";far 2");
            is("near " + n + " and far 2", x.reaches(0, 0), 12 - n);
        }
        rule(x, lines("near 40", 11) + ";far 40");
        is("all near", x.reaches(0, 0), 0);
        rule(x, lines("far 40", 12));
        is("all far", x.reaches(0, 0), 490);
        rule(x, lines("near 40", 6) + ";" + lines("far 40", 6));
        is("near first, then far: 0 at least at the end alone", x.reaches(0, 0), 10);
    }

    private static void lawLines() {
        says("LINE { ; LINE }, at most 12");
        FourHands x = one();
        is("12 lines", rule(x, lines("take", 12)), 12);
        is("lines", x.count(3), 12);
        placeOfLaw(x, lines("take", 13), 12 * 5);
        placeOfLaw(x, lines("take", 12) + ";  far", 12 * 5 + 2);
        placeOfLaw(x, lines("take", 12) + ";", 12 * 5);
        placeOfLaw(x, lines("take", 12) + "; ", 12 * 5 + 1);
        placeOfLaw(x, lines("take", 11) + ";", 11 * 5);
        is("the law stays", x.count(3), 12);
        says("a text, in place of the one before");
        is("one line", rule(x, "far 7"), 1);
        is("in place of the one before", x.count(3), 1);
        is("reaches", x.reaches(0, 0), 17);
        is("an empty one", rule(x, ""), 0);
        is("reaches", x.reaches(0, 0), 10);
        for (int i = 0; i < 20; i++) is("laws are not counted", rule(x, "far 1"), 1);
    }

    private static void lawDepth() {
        says("( and not within one another at most 6 deep.");
        for (int deep = 0; deep <= 6; deep++) {
            for (int mix = 0; mix < 1 << deep; mix++) {
                FourHands x = one();
                StringBuilder ahead = new StringBuilder("far 1 if ");
                StringBuilder behind = new StringBuilder();
                int nots = 0;
                for (int i = 0; i < deep; i++) {
                    boolean not = (mix >> i & 1) != 0;
                    ahead.append(not ? "not " : "(");
                    behind.append(not ? "" : ")");
                    nots += not ? 1 : 0;
                }
                is("law " + ahead + "low" + behind, rule(x, ahead + "low" + behind), 1);
                is("it holds", x.reaches(0, 0), nots % 2 == 0 ? 11 : 10);
                if (deep == 6) {
                    says("the ( or not that is a 7th one deep");
                    placeOfLaw(x, ahead + "(low)" + behind, ahead.length());
                    placeOfLaw(x, ahead + "not low" + behind, ahead.length());
                    placeOfLaw(x, ahead + "  ( low )" + behind, ahead.length() + 2);
                    placeOfLaw(x, ahead + "low and not low" + behind, mixHasOpen(mix, deep) ? depthBehind(mix, ahead.length()) : -1);
                    says("( and not within one another at most 6 deep.");
                }
            }
        }
        FourHands x = one();
        is("beside one another", rule(x, "far 1 if " + "(low)and ".repeat(8) + "not not left and not left or (low)"), 1);
        is("it holds", x.reaches(0, 0), 11);
        is("as deep again", rule(x, "far 1 if ((((((low)))))) and ((((((low)))))) or not (not (not (left)))"), 1);
        placeOfLaw(x, "far 1 if (((((low or (low))))))", -1);
        placeOfLaw(x, "far 1 if ((((((low or (low)))))))", 22);
        placeOfLaw(x, "far 1 if (((((not low or not low)))))", -1);
        placeOfLaw(x, "far 1 if ((((((low or not low))))))", 22);
    }

    /** Behind "low and" a not stands as deep as the last ( is, with nots behind it closed: it may still be a 7th. */
    private static boolean mixHasOpen(int mix, int deep) { return (mix >> deep - 1 & 1) == 0; }
    private static int depthBehind(int mix, int ahead) { return ahead + "low and ".length(); }

    private static void lawBytes() {
        says("Words are as long as a to z go on");
        for (int b = 0; b < 256; b++) {
            char c = (char) b;
            boolean letter = c >= 'a' && c <= 'z';
            boolean digit = c >= '0' && c <= '9';
            FourHands x = one();
            placeOfLaw(x, "take if 1" + c + "2", c == '<' || c == '>' ? -1 : c == '+' || digit ? 11 : c == ' ' ? 10 : 9);
            placeOfLaw(x, c + "take", c == ' ' ? -1 : 0);
            placeOfLaw(x, "take" + c, c == ' ' ? -1 : c == ';' ? 5 : letter ? 0 : 4);
            placeOfLaw(x, "take if low" + c + "or low", c == ' ' ? -1 : letter ? 8 : c == ';' ? 12 : 11);
            placeOfLaw(x, "take if " + c + "low", c == ' ' ? -1 : c == '(' ? 12 : digit ? 9 : 8);
            placeOfLaw(x, "take if (low" + c, c == ')' ? -1 : c == ' ' ? 13 : letter ? 9 : 12);
        }
        placeOfLaw(one(), "take if notlow", 8);
        placeOfLaw(one(), "take if low andlow", 12);
        placeOfLaw(one(), "takeif low", 0);
        placeOfLaw(one(), "far1iflow", 4);
        placeOfLaw(one(), "far1if low;near2if(left)or(low)and not(1<2+key)", -1);
        placeOfLaw(one(), "  far  1  if  ( left )  or  not  key  +  1  >  2  ;  take  ", -1);
    }

    private static void lawWords() {
        says("a word that is none");
        String law = "far 1 if left or low and not hand < key + hard;near 2 if tired > player + beat;take if page < 3";
        int at = 0;
        for (String thing : law.split("(?<=[ ;])")) {
            String word = thing.replaceAll("[ ;]", "");
            if (Character.isLetter(word.charAt(0))) {
                for (String none : noWords(word)) placeOfLaw(new FourHands(), law.substring(0, at) + none + law.substring(at + word.length()), at);
            }
            at += thing.length();
        }
        placeOfLaw(new FourHands(), law, -1);
    }

    /** All that may stand open at once: at each of 7 levels an or and an and, and sums at the innermost one. */
    private static void lawMostOpen() {
        promise = 5;
        says("( and not within one another at most 6 deep.");
        for (int which = 0; which < 2; which++) {
            String whole = which == 0 ? "2 < 1" : "1 < 2";
            StringBuilder c = new StringBuilder();
            for (int i = 0; i < 6; i++) c.append("2 < 1 or 1 < 2 and (");
            c.append("2 < 1 or 1 < 2 and ").append(which == 0 ? "3 > 1 + 1 + 1" : "3 > 1 + 1");
            for (int i = 0; i < 6; i++) c.append(')');
            FourHands x = one();
            is("law", rule(x, lines("far 0", 10) + ";far 2 if " + whole + ";far 1 if " + c), 12);
            is("it holds", x.reaches(0, 0), which == 0 ? 10 : 13);
        }
    }

    private static void lawMoreMustCome() {
        says("or the text's length, if more must come");
        String[] open = {"far", "near", "take;", "far 1 if", "take if not", "take if (", "take if (low", "take if low and", "take if low or", "take if key",
            "take if key +", "take if key <", "take if key + 1", "take if key < 1 +", "take if ((low)", "take if not (low", "take if 12", "near 3;"};
        for (String text : open) {
            placeOfLaw(one(), text, text.length());
            placeOfLaw(one(), text + "   ", text.length() + 3);
            placeOfLaw(one(), text + " ;", text.length() + 1);
            placeOfLaw(one(), text + " ?", text.length() + 1);
        }
        says("the begin of the first thing that cannot stand there");
        String[] names = {"hand", "key", "hard", "tired", "player", "beat", "page"};
        for (String name : names) {
            placeOfLaw(one(), "take if " + name + " < 1", -1);
            placeOfLaw(one(), "take if 1 > 2 + " + name, -1);
            placeOfLaw(one(), "take if " + name + "s < 1", 8);
            placeOfLaw(one(), "take if " + name.substring(1) + " < 1", 8);
        }
        for (String name : new String[] {"left", "low"}) {
            placeOfLaw(one(), "take if " + name + " < 1", 9 + name.length());
            placeOfLaw(one(), "take if 1 < " + name, 12);
            placeOfLaw(one(), "take if 1 + " + name + " < 2", 12);
            placeOfLaw(one(), "take if " + name + " " + name, 9 + name.length());
        }
        placeOfLaw(one(), "take if (1 + 2) < 3", 14);
        placeOfLaw(one(), "take if ()", 9);
        placeOfLaw(one(), "take if not )", 12);
        placeOfLaw(one(), "take if low if low", 12);
        placeOfLaw(one(), "take far 1", 5);
        placeOfLaw(one(), "far 1 2", 6);
        placeOfLaw(one(), "far low", 4);
        placeOfLaw(one(), "far 1 low", 6);
        placeOfLaw(one(), "take 1 if low", 5);
        placeOfLaw(one(), "if low", 0);
        placeOfLaw(one(), "hand of 0 at 1 reach 2 skill 3", 0);
        placeOfLaw(one(), "take if 1 < < 2", 12);
        placeOfLaw(one(), "take if 1 + + 2 < 3", 12);
        placeOfLaw(one(), "take if + 2 < 3", 8);
        placeOfLaw(one(), "take if 1 < 2 + 3 > 4", 18);
        placeOfLaw(one(), "take if and low", 8);
        placeOfLaw(one(), "take if low or and low", 15);
        placeOfLaw(one(), "take if low) or low", 11);
        placeOfLaw(one(), "take if (low;take)", 12);
    }

    private static void holds(Supplier<FourHands> recipe, int note, String condition, boolean due) {
        FourHands x = recipe.get();
        rule(x, "far 1 if " + condition);
        is("far 1 if " + condition + " for note " + note, x.reaches(0, note), due ? 11 : 10);
        rule(x, "near 1 if " + condition);
        is("near 1 if " + condition + " for note " + note, x.reaches(0, note), due ? 9 : 10);
    }

    private static void lawMeaning() {
        Supplier<FourHands> x = TextEdgesTest::one;
        says("left: the KEY is below that where the HAND is AT");
        holds(x, 2, "left", false);
        holds(x, 3, "left", true);
        holds(x, 0, "left", false);
        says("low: the KEY is below 32.");
        holds(x, 0, "low", true);
        holds(x, 1, "low", false);
        Supplier<FourHands> ends = () -> piece("hand of 0 at 0 reach 10 skill 0;note 0 at 0;note 63 at 0");
        holds(ends, 0, "low", true);
        holds(ends, 1, "low", false);
        says("SUM < SUM | SUM > SUM");
        for (int d = -1; d <= 1; d++) {
            holds(x, 0, "key < " + (31 + d), d > 0);
            holds(x, 0, "key > " + (31 + d), d < 0);
            holds(x, 0, (31 + d) + " < key", d < 0);
            holds(x, 0, "key + hard > " + (35 + d), d < 0);
            holds(x, 0, (34 + d) + " + 1 < hard + key", d < 0);
            holds(x, 0, "998 > " + (998 + d), d < 0);
        }
        says("Of a HAND and a NOTE: key, hard, beat: of the NOTE");
        Supplier<FourHands> tired = () -> {
            FourHands y = one();
            add(y, "page 7;beat 9");
            y.turn(60);
            y.put(0, 29);
            return y;
        };
        String[] names = {"hand", "key", "hard", "tired", "player", "beat", "page"};
        int[] values = {0, 31, 4, tired.get().hand(0, 4), 1, 2, 12};
        for (int i = 0; i < names.length; i++) {
            holds(tired, 0, names[i] + " < " + (values[i] + 1), true);
            holds(tired, 0, names[i] + " < " + values[i], false);
            holds(tired, 0, names[i] + " + 1 > " + values[i], true);
            holds(tired, 0, names[i] + " > " + values[i], false);
        }
        says("ALL { or ALL }; ALL: ATOM { and ATOM }");
        String[] atoms = {"1 < 2", "2 < 1"};
        for (int bits = 0; bits < 8; bits++) {
            boolean a = (bits & 1) == 0;
            boolean b = (bits & 2) == 0;
            boolean c = (bits & 4) == 0;
            String p = atoms[bits & 1];
            String q = atoms[bits >> 1 & 1];
            String r = atoms[bits >> 2];
            holds(x, 0, p + " or " + q + " and " + r, a || b && c);
            holds(x, 0, p + " and " + q + " or " + r, a && b || c);
            holds(x, 0, "(" + p + " or " + q + ") and " + r, (a || b) && c);
            holds(x, 0, "not " + p + " and " + q, !a && b);
            holds(x, 0, "not (" + p + " and " + q + ")", !(a && b));
            holds(x, 0, "not " + p + " or " + q + " or not not " + r, !a || b || c);
        }
        says("SUM: PART { + PART }");
        holds(x, 0, "1" + " + 1".repeat(70) + " > 70", true);
        holds(x, 0, "1" + " + 1".repeat(70) + " > 71", false);
        holds(x, 0, "1 < 2" + " and 1 < 2".repeat(35), true);
        holds(x, 0, "2 < 1" + " or 2 < 1".repeat(34) + " or 1 < 2", true);
        holds(x, 0, "999" + "+999".repeat(60) + ">999" + "+999".repeat(30), true);
    }

    private static void lawThird() {
        promise = 8;
        says("TAKES (of a NOTE; hand 6, tired 0, player 3, not left): whether some take LINE holds; always without such LINES (or a text).");
        FourHands x = one();
        is("without a text", x.note(0, 4), 1);
        rule(x, "");
        is("without lines", x.note(0, 4), 1);
        rule(x, "far 1;near 1 if low");
        is("without such lines", x.note(0, 4), 1);
        rule(x, "far 1;take");
        is("take", x.note(0, 4), 1);
        rule(x, "take if 2 < 1");
        is("none holds", x.note(0, 4), 0);
        rule(x, "take if 2 < 1;far 1;take if 1 < 2;take if 2 < 1");
        is("some holds", x.note(0, 4), 1);
        x.turn(5);
        x.put(0, 63);
        String[] names = {"hand", "key", "hard", "tired", "player", "beat", "page"};
        int[] values = {6, 31, 4, 0, 3, 2, 0};
        for (int i = 0; i < names.length; i++) {
            rule(x, "take if " + names[i] + " < " + (values[i] + 1) + " and " + names[i] + " + 1 > " + values[i]);
            is(names[i] + " is " + values[i], x.note(0, 4), 1);
            rule(x, "take if " + names[i] + " < " + values[i] + " or " + names[i] + " > " + values[i]);
            is(names[i] + " is " + values[i], x.note(0, 4), 0);
        }
        rule(x, "take if left");
        for (int n = 0; n < 4; n++) is("not left", x.note(n, 4), 0);
        rule(x, "take if low");
        is("key 31 is low", x.note(0, 4), 1);
        is("key 32 is not", x.note(1, 4), 0);
        rule(x, "take if low;far 3 if not low;near 2 if low");
        is("take lines add nothing", x.reaches(0, 0), 8);
        is("take lines add nothing", x.reaches(0, 1), 13);
        x.strike(0, true);
        is("a struck one, too", x.note(0, 4), 1);
    }

    private static void lawForm() {
        promise = 5;
        says("far N [ if C ] | near N [ if C ] | take [ if C ]");
        for (String kind : new String[] {"far 1", "near 1", "take"}) {
            placeOfLaw(one(), kind, -1);
            placeOfLaw(one(), kind + " if low", -1);
            placeOfLaw(one(), kind + " if", kind.length() + 3);
            placeOfLaw(one(), kind + ";" + kind + " if low;" + kind, -1);
        }
        says("Uses the TAPE up");
        FourHands x = one();
        rule(x, "far 1");
        is("the tape", x.end(1), false);
        placeOfLaw(x, "far", 3);
        is("the tape", x.end(1), false);
    }

    private static void faults() {
        promise = 6;
        says("The first wrong byte of the latest text that was read; NONE without one, and ahead of any.");
        FourHands x = new FourHands();
        is("ahead of any", x.fault(), -1);
        place(x, "", -1);
        place(x, "?", 0);
        place(x, "   ?", 3);
        place(x, "slip 5", -1);
        placeOfLaw(x, "near  ?", 6);
        place(x, " slip 5 ", -1);
        place(x, "beat 12", 5);
        placeOfLaw(x, "", -1);
        place(x, "note 1 at 1;note 1 at 1 hard 10;?", 22);
        x.image();
        x.back();
        x.turn(1);
        x.undo();
        fails("put", INDEX, () -> x.put(0, 0));
        is("what is no text leaves it", x.fault(), 22);
        tellBytes(x, 64);
        fails("next", ARGUMENT, x::next);
        tellBytes(x, 64);
        fails("whose", ARGUMENT, () -> x.whose(true));
        tellBytes(x, 64);
        fails("ask", ARGUMENT, x::ask);
        x.next();
        is("what is no text leaves it", x.fault(), 22);
    }
}
