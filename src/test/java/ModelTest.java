import java.lang.reflect.InvocationTargetException;
import java.lang.reflect.Method;
import java.util.ArrayList;
import java.util.Arrays;
import java.util.Comparator;
import java.util.List;
import java.util.Random;

/** Runs of chance calls on FourHands and on Model: every answer and every exception must be the same. */
public final class ModelTest {
    private static final int RUNS = 600;
    // What later calls of an object answer is free.
    private static final int CALLS_MOST = 512;
    private static final int LOOK = 14 + 6 * 8 + 14 * 5 + 9 * 4 + 1;
    // The tape may take 20 rows; ahead and behind them it is cut, then comes the call and a glance.
    private static final int TELL = 20 + 3 + 5;
    private final Random random;
    private final FourHands hands = new FourHands();
    private final Model model = new Model();
    private final StringBuilder story = new StringBuilder();
    private int calls = 0;
    private static final List<Method> FACE = face();

    private ModelTest(long seed) { random = new Random(seed); }

    private static List<Method> face() {
        Method[] all = FourHands.class.getDeclaredMethods();
        List<Method> open = new ArrayList<>();
        for (Method m : all) if (java.lang.reflect.Modifier.isPublic(m.getModifiers())) open.add(m);
        open.sort(Comparator.comparing(Method::getName));
        return open;
    }

    public static void main(String[] args) throws Exception {
        int runs = args.length > 0 ? Integer.parseInt(args[0]) : RUNS;
        long from = args.length > 1 ? Long.parseLong(args[1]) : 1;
        int wrong = 0;
        for (long seed = from; seed < from + runs && wrong < 3; seed++) {
            ModelTest test = new ModelTest(seed);
            if (!test.run()) {
                wrong++;
                System.out.println("run " + seed + ":\n" + test.story);
            }
        }
        System.out.println(wrong == 0 ? "ModelTest: " + runs + " runs are alike" : "ModelTest: runs differ");
        if (wrong > 0) System.exit(1);
    }

    private boolean run() throws Exception {
        int crowd = random.nextInt(8);
        if (!tell("piece", pieceText(crowd, true))) return false;
        if (random.nextInt(4) > 0 && !tell("law", lawText())) return false;
        for (int i = 0; calls < CALLS_MOST - LOOK - TELL; i++) {
            int kind = random.nextInt(30);
            boolean same;
            if (kind == 0) same = tell("piece", spoilt(pieceText(crowd, false)));
            else if (kind == 1) same = tell("law", spoilt(lawText()));
            else if (kind == 2) same = tell(random.nextBoolean() ? "whose" : "ask", rows());
            else if (kind == 3) same = tell("next", keys());
            else same = call(FACE.get(random.nextInt(FACE.size())));
            if (!same || i % 4 == 0 && !glance()) return false;
        }
        return look();
    }

    /** Something that can be seen plainly is the same. */
    private boolean glance() throws Exception {
        return call("count", n(14)) && call("hand", n(6), n(8)) && call("note", n(14), n(5)) && call("log", n(61), n(4)) && call("fault");
    }

    /** All that can be seen plainly is the same. */
    private boolean look() throws Exception {
        for (int what = 0; what < 14; what++) if (!call("count", what)) return false;
        for (int h = 0; h < 6; h++) for (int what = 0; what < 8; what++) if (!call("hand", h, what)) return false;
        for (int n = 0; n < 14; n++) for (int what = 0; what < 5; what++) if (!call("note", n, what)) return false;
        for (int r = 0; r < 61; r += 7) for (int what = 0; what < 4; what++) if (!call("log", r, what)) return false;
        return call("fault");
    }

    private boolean call(Method m) throws Exception {
        Object[] a = new Object[m.getParameterCount()];
        for (int i = 0; i < a.length; i++) a[i] = m.getParameterTypes()[i] == boolean.class ? (Object) random.nextBoolean() : (Object) number(m.getName(), i);
        return call(m.getName(), a);
    }

    private int number(String name, int i) {
        if (random.nextInt(40) == 0) return new int[] {-1, Integer.MIN_VALUE, Integer.MAX_VALUE, 12, 14, 60, 61, 64}[random.nextInt(8)];
        if (name.equals("seed") || name.equals("feed")) return random.nextInt();
        if (name.equals("slip")) return random.nextInt(102);
        if (name.equals("put") && i == 1) return random.nextInt(65);
        if (name.equals("steps")) return random.nextInt(31) - 15;
        if (name.equals("turn") || name.equals("ahead") && i == 1 || name.equals("trial") || name.equals("bounds")) return random.nextInt(10) == 0 ? random.nextInt(62) : random.nextInt(8);
        if (name.equals("hands") && i == 1) return random.nextInt(20);
        if (name.equals("trade") || name.equals("load") || name.equals("span") || name.equals("worst")) return random.nextInt(13) / 4;
        if (name.equals("chance") || name.equals("of") || name.equals("end")) return random.nextInt(14);
        return random.nextInt(random.nextInt(3) > 0 ? 4 : 13);
    }

    private boolean call(String name, Object... args) throws Exception {
        calls++;
        String a = answer(hands, name, args);
        String b = answer(model, name, args);
        if (!name.matches("count|hand|note|log|fault") || !a.equals(b)) {
            story.append(name).append(Arrays.toString(args)).append(" = ").append(a).append(", due ").append(b).append('\n');
        }
        return a.equals(b);
    }

    private static String answer(Object x, String name, Object... args) throws Exception {
        for (Method m : x.getClass().getDeclaredMethods()) {
            if (m.getName().equals(name) && java.lang.reflect.Modifier.isPublic(m.getModifiers())) {
                try {
                    return String.valueOf(m.invoke(x, args));
                } catch (InvocationTargetException e) {
                    return "throws." + e.getCause().getClass().getName();
                }
            }
        }
        return "no method " + name;
    }

    /** The text comes on the tape, and a call uses it up. */
    private boolean tell(String name, String text) throws Exception {
        story.append('"').append(text).append("\" ");
        if (!call("end", 0)) return false;
        byte[] padded = Arrays.copyOf(text.getBytes(java.nio.charset.StandardCharsets.ISO_8859_1), (text.length() + 19) / 20 * 20);
        java.nio.ByteBuffer b = java.nio.ByteBuffer.wrap(padded);
        while (b.hasRemaining()) if (!call("feed", b.getInt(), b.getInt(), b.getInt(), b.getInt(), b.getInt())) return false;
        if (!call("end", text.length())) return false;
        return name.equals("whose") ? call(name, random.nextBoolean()) : call(name);
    }

    // ---- texts

    private int n(int below) { return random.nextInt(below); }
    private String gap() { return n(6) == 0 ? " ".repeat(n(3)) : ""; }

    private String pieceText(int crowd, boolean first) {
        StringBuilder s = new StringBuilder(gap());
        int lines = first ? 8 + n(7) : n(4) == 0 ? 14 + n(2) : 1 + n(6);
        for (int i = 0; i < lines && s.length() < 360; i++) {
            if (i > 0) s.append(gap()).append(';').append(gap());
            int kind = first ? i < 4 ? n(3) : n(9) : n(12);
            int beat = crowd < 3 ? n(2) : crowd < 6 ? n(5) : n(12);
            int key = crowd % 2 == 0 ? 4 * n(16) : n(64);
            if (kind < 2) s.append("hand of ").append(n(3)).append(" at ").append(4 * n(16)).append(" reach ").append(n(25)).append(gap()).append("skill ").append(n(3) == 0 ? n(10) : 9);
            else if (kind < 9) s.append("note").append(gap()).append(' ').append(key).append(" at ").append(beat).append(n(2) == 0 ? " hard " + n(10) : "");
            else if (kind == 9) s.append("slip ").append(n(101));
            else if (kind == 10) s.append("beat ").append(n(12));
            else s.append("page ").append(n(1000));
        }
        return s.append(gap()).toString();
    }

    private String lawText() {
        StringBuilder s = new StringBuilder(gap());
        int lines = n(12) == 0 ? 10 + n(4) : 1 + n(4);
        for (int i = 0; i < lines && s.length() < 300; i++) {
            if (i > 0) s.append(gap()).append(';').append(gap());
            s.append(n(3) == 0 ? "take" : (n(2) == 0 ? "far " : "near ") + n(20));
            if (n(4) > 0) s.append(" if ").append(condition(0));
        }
        return s.append(gap()).toString();
    }

    private String condition(int deep) {
        StringBuilder s = new StringBuilder(atom(deep));
        int more = n(3) == 0 ? 1 + n(2) : 0;
        for (int i = 0; i < more; i++) s.append(n(2) == 0 ? " and " : " or ").append(gap()).append(atom(deep));
        return s.toString();
    }

    private String atom(int deep) {
        int kind = deep > 7 ? 5 : n(deep > 2 && n(3) > 0 ? 2 : 8);
        if (kind == 0) return "not " + atom(deep + 1);
        if (kind == 1) return "(" + gap() + condition(deep + 1) + gap() + ")";
        if (kind == 2) return "left";
        if (kind == 3) return "low";
        return sum() + gap() + (n(2) == 0 ? "<" : ">") + gap() + sum();
    }

    private String sum() {
        StringBuilder s = new StringBuilder(atomPart());
        while (n(4) == 0) s.append(gap()).append('+').append(gap()).append(atomPart());
        return s.toString();
    }

    private String atomPart() {
        String[] names = {"hand", "key", "hard", "tired", "player", "beat", "page"};
        return n(5) < 2 ? String.valueOf(n(4) == 0 ? n(1000) : n(3) == 0 ? n(64) : n(6)) : names[n(7)];
    }

    /** Mostly as it is; else a byte is another one, or missing, or more, or the text ends early. */
    private String spoilt(String text) {
        StringBuilder s = new StringBuilder(text);
        int times = n(2) == 0 ? 0 : 1 + n(2);
        for (int i = 0; i < times && s.length() > 0; i++) {
            int at = n(s.length());
            String signs = "abfhinot0159;()<>+ =,A\u00e9\n";
            char c = signs.charAt(n(signs.length()));
            switch (n(5)) {
                case 0: s.setCharAt(at, c); break;
                case 1: s.deleteCharAt(at); break;
                case 2: s.insert(at, c); break;
                case 3: s.setLength(at); break;
                default: s.insert(at, s.charAt(at)); break;
            }
        }
        s.setLength(Math.min(400, s.length()));
        return s.toString();
    }

    private String rows() {
        StringBuilder s = new StringBuilder();
        int rows = n(15) == 0 ? 18 + n(5) : n(5);
        for (int i = 0; i < rows; i++) s.append((char) n(n(20) == 0 ? 20 : 8)).append((char) n(n(40) == 0 ? 3 : 2));
        if (n(20) == 0) s.append((char) 0);
        return s.toString();
    }

    private String keys() {
        StringBuilder s = new StringBuilder();
        int keys = n(15) == 0 ? 18 + n(5) : n(5);
        for (int i = 0; i < keys; i++) {
            String tune = answerQuietly(n(12));
            s.append((char) (tune.startsWith("-") || n(4) == 0 ? n(n(10) == 0 ? 70 : 64) : Integer.parseInt(tune)));
        }
        return s.toString();
    }

    private String answerQuietly(int beat) { return String.valueOf(model.tune(beat, true)); }
}
