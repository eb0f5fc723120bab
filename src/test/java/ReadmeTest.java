import java.io.IOException;
import java.nio.file.Files;
import java.nio.file.Path;
import java.util.ArrayList;
import java.util.Comparator;
import java.util.List;
import java.util.Set;
import java.util.TreeSet;
import java.util.concurrent.TimeUnit;
import java.util.regex.Matcher;
import java.util.regex.Pattern;
import java.util.stream.Stream;

/**
 * README.md is tried out as it is written: its program is put beside a copy of the sources, each block of commands is run
 * there, and prints what the page says.
 */
public final class ReadmeTest extends Checks {
    private static final Path HOME = Path.of("");
    private static final int SECONDS_MOST = 300;

    /** A piece of the page between two fences. */
    private static final class Block {
        final String language;
        final String text;

        Block(String language, String text) {
            this.language = language;
            this.text = text;
        }
    }

    public static void main(String[] args) throws Exception {
        String page = Files.readString(HOME.resolve("README.md"));
        tryOut(blocks(page));
        namesEachTest(page);
        report("ReadmeTest");
    }

    private static List<Block> blocks(String page) {
        List<Block> found = new ArrayList<>();
        Matcher m = Pattern.compile("^```([a-z]+)\\n(.*?)^```$", Pattern.MULTILINE | Pattern.DOTALL).matcher(page);
        while (m.find()) found.add(new Block(m.group(1), m.group(2)));
        return found;
    }

    private static void tryOut(List<Block> blocks) throws IOException, InterruptedException {
        Path copy = Files.createTempDirectory("readme");
        try {
            copyTree(HOME.resolve("src"), copy.resolve("src"));
            int programs = 0;
            int runs = 0;
            for (int i = 0; i < blocks.size(); i++) {
                Block b = blocks.get(i);
                if (b.language.equals("java")) {
                    Files.writeString(copy.resolve("Example.java"), b.text);
                    programs++;
                } else if (b.language.equals("sh")) {
                    boolean told = i + 1 < blocks.size() && blocks.get(i + 1).language.equals("text");
                    is("commands without what they print: " + b.text, told, true);
                    if (told) is("what is printed by\n" + b.text, printed(copy, b.text), blocks.get(i + 1).text);
                    runs++;
                }
            }
            is("programs", programs, 1);
            is("blocks of commands", runs, 2);
        } finally {
            removeTree(copy);
        }
    }

    private static String printed(Path where, String commands) throws IOException, InterruptedException {
        Path out = where.resolve("printed");
        Process p = new ProcessBuilder("sh", "-ec", commands).directory(where.toFile())
            .redirectErrorStream(true).redirectOutput(out.toFile()).start();
        if (!p.waitFor(SECONDS_MOST, TimeUnit.SECONDS)) {
            p.destroyForcibly();
            return "(no end)";
        }
        String text = Files.readString(out);
        return p.exitValue() == 0 ? text : text + "(exit code " + p.exitValue() + ")";
    }

    private static void namesEachTest(String page) throws IOException {
        Set<String> tests = new TreeSet<>();
        try (Stream<Path> files = Files.list(HOME.resolve("src/test/java"))) {
            files.map(f -> f.getFileName().toString()).filter(f -> f.endsWith("Test.java"))
                .forEach(f -> tests.add(f.substring(0, f.length() - 5)));
        }
        Set<String> named = new TreeSet<>();
        Matcher m = Pattern.compile("`([A-Za-z]+Test)`").matcher(page);
        while (m.find()) named.add(m.group(1));
        is("the tests that are named", named.toString(), tests.toString());
    }

    private static void copyTree(Path from, Path to) throws IOException {
        try (Stream<Path> files = Files.walk(from)) {
            for (Path f : (Iterable<Path>) files::iterator) Files.copy(f, to.resolve(from.relativize(f)));
        }
    }

    private static void removeTree(Path tree) throws IOException {
        try (Stream<Path> files = Files.walk(tree)) {
            for (Path f : (Iterable<Path>) files.sorted(Comparator.reverseOrder())::iterator) Files.delete(f);
        }
    }
}
