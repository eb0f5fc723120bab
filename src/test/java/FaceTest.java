import java.lang.management.ManagementFactory;
import java.lang.reflect.Field;
import java.lang.reflect.Method;
import java.lang.reflect.Modifier;
import java.nio.file.Files;
import java.nio.file.Path;
import java.util.Arrays;
import java.util.Set;
import java.util.TreeSet;
import java.util.stream.Collectors;

/** The public face, what LANGUAGE.md says of members and of the source, and that calls make no objects. */
public final class FaceTest {
    private static final String FACE = "int feed(int,int,int,int,int) boolean end(int) int piece() int law() int fault() "
        + "int hand(int,int) int note(int,int) boolean can(int,int) int reaches(int,int) int turn(int) int put(int,int) "
        + "int rest(int) boolean bind(int,boolean) boolean strike(int,boolean) int shift(int,int) int slip(int) "
        + "void swap(int,int) int of(int) int holds(int,int) int left(int) int go(int) int third(int) int full() int part() "
        + "boolean easy() int hands(int,int) int needed() int missed() int spare() int best() int clean() int better(int) "
        + "int tune(int,boolean) int steps(int) int next() int octaves() int sevens() int like() int whose(boolean) int ask() "
        + "int trade(int,int) int load(int) boolean sure(int,int,int) int doubt(int) int chance(int,boolean) int expect() "
        + "int worst(int) int rests(int) int free() int span(int) int cross() int hardest() int tires() int alike() "
        + "int ahead(int,int,int) int trial(int,boolean) int bounds(int,boolean) int led(int,boolean) int log(int,int) "
        + "int seed(int) boolean undo() void image() boolean back() int count(int)";
    private static int wrong = 0;

    private static void due(String what, boolean holds) {
        if (!holds) {
            wrong++;
            System.out.println("FaceTest: " + what);
        }
    }

    public static void main(String[] args) throws Exception {
        face();
        members();
        source();
        room();
        System.out.println(wrong == 0 ? "FaceTest: the face is as due" : "FaceTest: " + wrong + " faults");
        if (wrong > 0) System.exit(1);
    }

    private static void face() throws Exception {
        Set<String> want = new TreeSet<>(Arrays.asList(FACE.split("(?<=\\)) ")));
        Set<String> got = new TreeSet<>();
        for (Method m : FourHands.class.getDeclaredMethods()) {
            if (!Modifier.isPrivate(m.getModifiers())) {
                due(m + " is public and no static one", m.getModifiers() == Modifier.PUBLIC);
                got.add(m.getReturnType() + " " + m.getName() + "("
                    + Arrays.stream(m.getParameterTypes()).map(Class::toString).collect(Collectors.joining(",")) + ")");
            }
        }
        due("the face is " + got + ", due is " + want, got.equals(want));
        due("the class is public and final", FourHands.class.getModifiers() == (Modifier.PUBLIC | Modifier.FINAL));
        due("one constructor", FourHands.class.getDeclaredConstructors().length == 1 && Modifier.isPublic(FourHands.class.getConstructor().getModifiers()));
        for (Field f : FourHands.class.getDeclaredFields()) {
            due(f + " is private or NONE", Modifier.isPrivate(f.getModifiers()) || f.getName().equals("NONE"));
        }
        due("NONE", FourHands.class.getField("NONE").getInt(null) == -1);
    }

    private static void members() {
        Set<String> open = new TreeSet<>();
        for (Method m : FourHands.class.getDeclaredMethods()) if (Modifier.isPublic(m.getModifiers())) open.add(m.getName());
        Class<?>[] inside = FourHands.class.getDeclaredClasses();
        due("at most twelve classes", inside.length + 1 <= 12);
        for (int i = -1; i < inside.length; i++) {
            Class<?> c = i < 0 ? FourHands.class : inside[i];
            int own = 0;
            for (Field f : c.getDeclaredFields()) {
                if (Modifier.isStatic(f.getModifiers())) due(f + " is final", Modifier.isFinal(f.getModifiers()));
                else own++;
            }
            due(c + " has " + own + " fields", own <= 20);
            due(c + " is static", i < 0 || Modifier.isStatic(c.getModifiers()));
            for (Method m : c.getDeclaredMethods()) {
                due(m + " has a name of the face", i < 0 && Modifier.isPublic(m.getModifiers()) || !open.contains(m.getName()));
                due(m + " has too many parameters", m.getParameterCount() <= 7);
            }
        }
    }

    private static void source() throws Exception {
        String text = Files.readString(Path.of("src/main/java/FourHands.java"));
        for (String word : new String[] {"catch", "try", "finally", "synchronized", "assert", "->", "::", "double", "float", "instanceof", "@"}) {
            due("the source has " + word, !text.matches("(?s).*(?<![a-z])\\Q" + word + "\\E(?![a-zA-Z]).*"));
        }
        due("one import", text.split("\nimport ").length == 1 && text.startsWith("import java.util.NoSuchElementException;"));
        due("signs below 128", text.chars().allMatch(c -> c < 128));
    }

    /** After the first ones, calls make nothing; an object is small. */
    private static void room() {
        com.sun.management.ThreadMXBean bean = (com.sun.management.ThreadMXBean) ManagementFactory.getThreadMXBean();
        FourHands x = new FourHands();
        long before = bean.getCurrentThreadAllocatedBytes();
        x = new FourHands();
        long made = bean.getCurrentThreadAllocatedBytes() - before;
        due("an object is of " + made + " bytes", made < 40_000);
        use(x);
        before = bean.getCurrentThreadAllocatedBytes();
        for (int i = 0; i < 20; i++) use(x);
        made = bean.getCurrentThreadAllocatedBytes() - before;
        due("calls made " + made + " bytes", made < 10_000);
    }

    private static void use(FourHands x) {
        String text = "note 9 at 0;hand of 0 at 1 reach 30 skill 9;hand of 1 at 9 reach 9 skill 9";
        if (x.count(0) == 0) {
            for (int i = 0; i < 4; i++) x.feed(word(text, i * 20), word(text, i * 20 + 4), word(text, i * 20 + 8), word(text, i * 20 + 12), word(text, i * 20 + 16));
            x.end(text.length());
            x.piece();
        }
        x.feed(0x66617220, 0x34206966, 0x206c6f77, 0x20202020, 0x20202020);
        x.law();
        x.turn(60);
        x.put(0, 5);
        x.best();
        x.clean();
        x.better(0);
        x.bounds(60, true);
        x.trade(0, 1);
        x.tires();
        x.ask();
        x.next();
        x.missed();
        x.image();
        x.back();
        x.undo();
    }

    private static int word(String text, int at) {
        int w = 0;
        for (int i = 0; i < 4; i++) w = w << 8 | (at + i < text.length() ? text.charAt(at + i) : ' ');
        return w;
    }
}
