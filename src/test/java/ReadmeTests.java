import java.io.IOException;
import java.lang.reflect.Method;
import java.lang.reflect.Modifier;
import java.nio.file.Files;
import java.nio.file.Path;
import java.util.List;
import java.util.Set;
import java.util.TreeSet;
import java.util.regex.Matcher;
import java.util.regex.Pattern;
import java.util.stream.Collectors;
import java.util.stream.Stream;

/** What README.md says is what the project does. */
public final class ReadmeTests {
    private static final Path OWN_TESTS = Path.of("src", "test", "java");

    private ReadmeTests() {
    }

    /** The same lines as README.md's, which is tested below, so that its example compiles and answers what it says. */
    private static void example() {
        // the example begins
        CutStore store = new CutStore();
        for (char c : "abcda3".toCharArray()) {
            store.append(c);
        }
        int pieces = store.put(0);
        int slot = store.piece(0, 1, 0);
        int owners = store.slot(slot, 1);
        int both = store.copy(2, 0);
        int ownersNow = store.slot(slot, 1);
        int saved = store.undo();
        // the example ends
        Check.same("the example: pieces", pieces, 3);
        Check.same("the example: slot", slot, 1);
        Check.same("the example: owners", owners, 1);
        Check.same("the example: both", both, 3);
        Check.same("the example: owners now", ownersNow, 2);
        Check.same("the example: saved", saved, 1);
        Check.hasPieces("the example", store, 0, "ab cd aaa");
        Check.same("the example: text 2", store.text(2, 0), 0);
        Check.same("the example: the buffer", store.clearBuffer(), 0);
    }

    private static String between(String text, String begin, String end) {
        int from = text.indexOf(begin);
        int to = from < 0 ? -1 : text.indexOf(end, from + begin.length());
        return to < 0 ? "" : text.substring(from + begin.length(), to);
    }

    /** The lines as they are compiled, without what their comments say. */
    private static List<String> code(String text) {
        return text.lines().map(line -> line.replaceFirst("//.*", "").trim()).filter(line -> !line.isEmpty())
                .collect(Collectors.toList());
    }

    private static void exampleIsTheOneHere(String readme) throws IOException {
        String here = Files.readString(OWN_TESTS.resolve("ReadmeTests.java"));
        List<String> said = code(between(readme, "```java\n", "```"));
        List<String> tested = code(between(here, "// the example begins\n", "// the example ends"));
        Check.same("README.md has an example, which", said.isEmpty() ? 0 : 1, 1);
        Check.same(said + " is tested as " + tested + ", which", said.equals(tested) ? 1 : 0, 1);
    }

    private static Set<String> matches(String text, String pattern) {
        Set<String> found = new TreeSet<>();
        Matcher matcher = Pattern.compile(pattern).matcher(text);
        while (matcher.find()) {
            found.add(matcher.group(1));
        }
        return found;
    }

    private static void callsAreThoseOfTheFace(String readme) {
        Set<String> face = new TreeSet<>();
        for (Method method : CutStore.class.getDeclaredMethods()) {
            if (Modifier.isPublic(method.getModifiers())) {
                face.add(method.getName());
            }
        }
        Set<String> said = new TreeSet<>();
        for (String calls : matches(between(readme, "| Calls |", "\n\n"), "(?m)^\\| (`[^|]*) \\|")) {
            said.addAll(matches(calls, "`(\\w+)`"));
        }
        Check.same("the calls " + said + " are " + face + ", which", said.equals(face) ? 1 : 0, 1);
    }

    private static void settingsAreTheClass(String readme) {
        Matcher row = Pattern.compile("(?m)^\\| (\\d) \\| [^|]* \\| (\\d+) to (\\d+) \\| (\\d+) \\|$").matcher(readme);
        int rows = 0;
        while (row.find()) {
            int setting = Integer.parseInt(row.group(1));
            int lowest = Integer.parseInt(row.group(2));
            int highest = Integer.parseInt(row.group(3));
            CutStore x = new CutStore();
            Check.same("row of the setting", setting, rows);
            Check.same("setting " + setting + " at first", x.setting(setting), Integer.parseInt(row.group(4)));
            Check.same("setting " + setting + " as the lowest", x.set(setting, lowest), Integer.parseInt(row.group(4)));
            Check.same("setting " + setting + " as the highest", x.set(setting, highest), lowest);
            Check.refusesEach(x, "setting " + setting + " as", Check.ARGUMENT, value -> x.set(setting, value),
                    lowest - 1, highest + 1);
            rows++;
        }
        CutStore x = new CutStore();
        int beyond = rows;
        Check.refuses(x, "no more settings than those", Check.PLACE, () -> x.setting(beyond));
    }

    /** The constant and the greatest numbers, as the paragraph behind the settings says them. */
    private static void limitsAreTheClass(String readme) {
        String said = between(readme, "Texts have the numbers", "\n\n").replace('\n', ' ');
        String form = " 0 to (\\d+) and at most (\\d+) signs each; the store has the slots 0 to (\\d+), and room for"
                + " (\\d+) signs; the buffer has room for (\\d+) characters\\. A look answers `CutStore\\.NONE`, (-\\d),.*";
        Matcher limits = Pattern.compile(form).matcher(said);
        boolean found = limits.matches();
        Check.same("the limits are said, which", found ? 1 : 0, 1);
        if (found) {
            limitsAre(Integer.parseInt(limits.group(1)), Integer.parseInt(limits.group(2)),
                    Integer.parseInt(limits.group(3)), Integer.parseInt(limits.group(4)),
                    Integer.parseInt(limits.group(5)), Integer.parseInt(limits.group(6)));
        }
    }

    private static void limitsAre(int lastText, int signs, int lastSlot, int room, int characters, int none) {
        CutStore x = new CutStore();
        Check.same("the last text", x.text(lastText, 0), 0);
        Check.refuses(x, "a text behind it", Check.PLACE, () -> x.text(lastText + 1, 0));
        Check.same("the last slot", x.slot(lastSlot, 0), none);
        Check.refuses(x, "a slot behind it", Check.PLACE, () -> x.slot(lastSlot + 1, 0));
        Check.put(x, 0, Examples.FORTY);
        Check.same("signs of a full text", x.text(0, 0), signs);
        x.append('a');
        Check.refuses(x, "a sign more", Check.STATE, () -> x.insert(0, 0));
        Check.type(x, "a".repeat(characters - 1));
        Check.refuses(x, "a character more", Check.STATE, () -> x.append('a'));
        Check.same("the length of a full buffer", x.clearBuffer(), characters);
        CutStore full = Examples.withoutRoom();
        Check.same("the size of a full store", full.count(3), room);
        Check.type(full, "a");
        Check.refuses(full, "a sign more of size", Check.STATE, () -> full.insert(3, 0));
        Check.same("NONE", CutStore.NONE, none);
    }

    /** Each file of the tests is named behind "## Tests", and each name there is a file's. */
    private static void testsAreTheFiles(String readme) throws IOException {
        Set<String> files;
        try (Stream<Path> all = Files.list(OWN_TESTS)) {
            files = all.map(file -> file.getFileName().toString()).filter(name -> name.endsWith(".java"))
                    .map(name -> name.substring(0, name.length() - ".java".length()))
                    .collect(Collectors.toCollection(TreeSet::new));
        }
        Set<String> said = matches(readme.substring(Math.max(0, readme.indexOf("## Tests"))), "`([A-Z]\\w+)`");
        Check.same("the tests " + said + " are " + files + ", which", said.equals(files) ? 1 : 0, 1);
    }

    public static void main(String[] args) throws IOException {
        String readme = Files.readString(Path.of("README.md"));
        example();
        exampleIsTheOneHere(readme);
        callsAreThoseOfTheFace(readme);
        settingsAreTheClass(readme);
        limitsAreTheClass(readme);
        testsAreTheFiles(readme);
        Check.finish("ReadmeTests");
    }
}
