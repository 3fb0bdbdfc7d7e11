import java.io.IOException;
import java.lang.reflect.Method;
import java.lang.reflect.Modifier;
import java.nio.file.Files;
import java.nio.file.Path;
import java.util.ArrayList;
import java.util.Comparator;
import java.util.List;
import java.util.Set;
import java.util.TreeSet;
import java.util.function.IntPredicate;
import java.util.regex.Matcher;
import java.util.regex.Pattern;
import java.util.stream.Stream;

/** That what README.md shows compiles and answers as README.md says. */
public final class ReadmeTest {
    private static final Path PROGRAM = Path.of("src/main/java/PagedMemory.java");
    private static final Path TESTS = Path.of("src/test/java");

    /** A call behind which the answer stands; its groups: a declaration, the call, the answer. */
    private static final Pattern CLAIM =
        Pattern.compile("\\s*((?:int|long) \\w+ = )?(x\\.\\w+\\(.*\\)); +// answers ([^:]+)(: .*)?");
    private static final Pattern LOAD = Pattern.compile("\\| ([\\d, ]+) \\| (\\d) \\| (with|without) \\| (32|64) \\|");
    private static final Pattern STORE = Pattern.compile("\\| ([\\d, ]+) \\| (\\d) \\|");
    private static final Pattern TEST = Pattern.compile("\\| `(\\w+)` \\| .* \\|");

    /** All bytes with the sign bit, then all without. */
    private static final long[] NUMBERS = {0x8182838485868788L, 0x0102030405060708L};

    public static void main(String[] args) throws IOException, InterruptedException {
        List<String> readme = Files.readAllLines(Path.of("README.md"));
        List<String> example = block(readme, "```java");
        List<String> commands = block(readme, "```sh");
        allCallsAreShown(example);
        Check.compare("what the example prints", "[]", run(commands, example).toString());
        answersAreAsTold(commands, example);
        roomIsAsTold(readme);
        loadsAreAsTold(readme);
        storesAreAsTold(readme);
        testsAreAsTold(readme);
        Check.finish();
    }

    /** The lines of the first block that begins so. */
    private static List<String> block(List<String> readme, String begin) {
        int first = readme.indexOf(begin) + 1;
        int lines = readme.subList(first, readme.size()).indexOf("```");
        Check.compare("README.md has " + begin, "true", Boolean.toString(first > 0 && lines > 0));
        return readme.subList(first, first + Math.max(0, lines));
    }

    private static void allCallsAreShown(List<String> example) {
        for (Method method : PagedMemory.class.getDeclaredMethods()) {
            if (!Modifier.isPublic(method.getModifiers())) {
                continue;
            }
            String call = "x." + method.getName() + "(";
            List<String> shown = example.stream().filter(line -> line.contains(call)).toList();
            Check.compare("the example shows " + call, "true", Boolean.toString(!shown.isEmpty()));
            for (String line : shown) {
                boolean told = CLAIM.matcher(line).matches();
                Check.compare("has an answer behind it:" + line,
                    Boolean.toString(method.getReturnType() != void.class), Boolean.toString(told));
            }
        }
    }

    /** Runs README.md's commands on a copy of the class with this Example.java: what they print. */
    private static List<String> run(List<String> commands, List<String> example)
            throws IOException, InterruptedException {
        Path place = Files.createTempDirectory("readme");
        try {
            Files.createDirectories(place.resolve(PROGRAM).getParent());
            Files.copy(PROGRAM, place.resolve(PROGRAM));
            Files.write(place.resolve("Example.java"), example);
            List<String> printed = new ArrayList<>();
            for (String command : commands) {
                Process process = new ProcessBuilder(command.split(" ")).directory(place.toFile())
                    .redirectError(ProcessBuilder.Redirect.INHERIT).start();
                printed.addAll(new String(process.getInputStream().readAllBytes()).lines().toList());
                Check.compare("exit code of " + command, "0", Integer.toString(process.waitFor()));
            }
            return printed;
        } finally {
            remove(place);
        }
    }

    private static void remove(Path place) throws IOException {
        List<Path> all;
        try (Stream<Path> found = Files.walk(place)) {
            all = found.sorted(Comparator.reverseOrder()).toList();
        }
        for (Path path : all) {
            Files.delete(path);
        }
    }

    /** Every answer must also be reached: those behind an exception are not, when the exception doesn't come. */
    private static void answersAreAsTold(List<String> commands, List<String> example)
            throws IOException, InterruptedException {
        List<String> calls = new ArrayList<>();
        List<String> lines = new ArrayList<>();
        for (String line : example.subList(0, example.size() - 1)) {
            Matcher claim = CLAIM.matcher(line);
            if (claim.matches()) {
                lines.add(checked(calls.size(), claim));
                calls.add(claim.group(2));
            } else {
                lines.add(line);
            }
        }
        lines.add("private static long due(int claim, long want, long got) {");
        lines.add("System.out.println(claim + \" \" + want + \" \" + got);");
        lines.add("return got; } }");
        List<String> printed = run(commands, lines);
        Check.compare("answers reached", Integer.toString(calls.size()), Integer.toString(printed.size()));
        for (int i = 0; i < Math.min(calls.size(), printed.size()); i++) {
            String[] answer = printed.get(i).split(" ");
            Check.compare("the answer reached", Integer.toString(i), answer[0]);
            Check.compare("the example's " + calls.get(i), answer[1], answer[2]);
        }
    }

    private static String checked(int number, Matcher claim) {
        String due = "due(" + number + ", " + claim.group(3) + ", " + claim.group(2) + ");";
        return claim.group(1) == null ? due : claim.group(1) + "(int) " + due;
    }

    private static void roomIsAsTold(List<String> readme) {
        PagedMemory x = new PagedMemory();
        most(readme, "memories", n -> x.memory(0, 0) == n);
        most(readme, "pages (256 bytes each) of all memories together", n -> Made.pages(n + 1, 99).size(9, 0) == 1);
        most(readme, "limit of a memory, in pages", n -> Made.pages(0, n + 1).size(9, 0) == 1);
        most(readme, "tables", n -> x.table(112, 0, 0) == n);
        most(readme, "entries of all tables together", n -> Made.entries(n + 1, -1).size(10, 0) == 1);
        most(readme, "segments of bytes", n -> x.data(0, 0, false) == n);
        most(readme, "bytes of all these segments together", n -> Made.bytes(n).data(0, 1, true) == 0);
        most(readme, "segments of references", n -> x.element(0, false) == n);
        most(readme, "references of all these segments together", n -> Made.references(n).element(0, n > 0) == 0);
    }

    /** The row of the table with this name tells for how many n from 0 on there is one more behind n. */
    private static void most(List<String> readme, String name, IntPredicate oneMore) {
        int most = 0;
        while (most < 100_000 && oneMore.test(most)) {
            most++;
        }
        String row = "| " + name + " | " + most + " |";
        Check.compare("README.md has " + row, "true", Boolean.toString(readme.contains(row)));
    }

    private static void loadsAreAsTold(List<String> readme) {
        Set<Integer> told = new TreeSet<>();
        for (Matcher row : rows(readme, LOAD)) {
            for (String operator : row.group(1).split(", ")) {
                told.add(Integer.valueOf(operator));
                loadIsAsTold(Integer.parseInt(operator), row);
            }
        }
        Check.compare("loads told", "[40, 41, 42, 43, 44, 45, 46, 47, 48, 49, 50, 51, 52, 53]", told.toString());
    }

    private static void loadIsAsTold(int operator, Matcher row) {
        int above = 64 - 8 * Integer.parseInt(row.group(2));
        long filled = row.group(4).equals("32") ? 0xFFFFFFFFL : -1L;
        for (long number : NUMBERS) {
            long lowest = number << above;
            long due = (row.group(3).equals("with") ? lowest >> above : lowest >>> above) & filled;
            PagedMemory x = Made.pages(1, 1);
            x.store(0, 55, 0, 0, number);
            Check.due("README.md's load " + operator, due, () -> x.load(0, operator, 0, 0));
        }
    }

    private static void storesAreAsTold(List<String> readme) {
        Set<Integer> told = new TreeSet<>();
        for (Matcher row : rows(readme, STORE)) {
            int above = 64 - 8 * Integer.parseInt(row.group(2));
            for (String operator : row.group(1).split(", ")) {
                told.add(Integer.valueOf(operator));
                PagedMemory x = Made.pages(1, 1);
                x.store(0, Integer.parseInt(operator), 0, 0, NUMBERS[0]);
                Check.due("README.md's store " + operator, NUMBERS[0] << above >>> above, () -> x.load(0, 41, 0, 0));
            }
        }
        Check.compare("stores told", "[54, 55, 56, 57, 58, 59, 60, 61, 62]", told.toString());
    }

    private static void testsAreAsTold(List<String> readme) throws IOException {
        Set<String> told = new TreeSet<>();
        for (Matcher row : rows(readme, TEST)) {
            told.add(row.group(1) + ".java");
        }
        Set<String> there = new TreeSet<>();
        try (Stream<Path> files = Files.list(TESTS)) {
            files.map(file -> file.getFileName().toString()).filter(name -> name.endsWith("Test.java"))
                .forEach(there::add);
        }
        Check.compare("tests told", there.toString(), told.toString());
    }

    private static List<Matcher> rows(List<String> readme, Pattern pattern) {
        return readme.stream().map(pattern::matcher).filter(Matcher::matches).toList();
    }
}
