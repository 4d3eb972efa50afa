import java.io.IOException;
import java.nio.file.Files;
import java.nio.file.Path;
import java.util.ArrayList;
import java.util.Arrays;
import java.util.List;
import java.util.Map;
import java.util.TreeSet;
import java.util.regex.MatchResult;
import java.util.regex.Pattern;
import java.util.stream.Stream;

/** What README.md says is true: its example, its commands, its acts, its findings, its tests. */
public final class ReadmeTest {
  // What must have been called, so that a finding's example answers it.
  private static final Map<String, List<Call>> AHEAD = Map.of(
      "FULL", Stream.generate(() -> new Call("feed", 0, 4)).limit(30).toList(),
      "KIND", List.of(new Call("pull", 0), new Call("hold", 0, 0)));

  private static int checks = 0;
  private static int wrong = 0;

  private ReadmeTest() {}

  private static void due(String what, Object got, Object want) {
    checks++;
    if (!got.equals(want)) {
      wrong++;
      System.out.println(what + " is " + got + ", due is " + want);
    }
  }

  private static List<MatchResult> found(String pattern, String text) {
    return Pattern.compile(pattern).matcher(text).results().toList();
  }

  /** The blocks of a language, in their order. */
  private static List<String> blocks(String page, String language) {
    return found("(?s)\n```" + language + "\n(.*?)```\n", page).stream().map(m -> m.group(1)).toList();
  }

  private static String run(Path place, String commands) throws IOException, InterruptedException {
    Process process = new ProcessBuilder("sh", "-e", "-c", commands).directory(place.toFile()).redirectErrorStream(true)
        .start();
    String printed = new String(process.getInputStream().readAllBytes());
    due("the end of " + commands, process.waitFor(), 0);
    return printed;
  }

  /** All commands but .ci/run, which runs this test itself, in a place that stands for the project's. */
  private static void checkCommands(String page) throws IOException, InterruptedException {
    Path place = Files.createTempDirectory("readme");
    try {
      Path project = Files.createDirectory(place.resolve("main"));
      Files.createSymbolicLink(place.resolve("shared"), Path.of("../shared").toRealPath());
      Files.createSymbolicLink(project.resolve("src"), Path.of("src").toRealPath());
      Files.writeString(project.resolve("Example.java"), blocks(page, "java").get(0));
      List<String> commands = blocks(page, "sh");
      due("blocks of commands", commands.size(), 3);
      due("what the example prints", run(project, commands.get(0)), blocks(page, "text").get(0));
      due("all tests", commands.get(1), ".ci/run\n");
      run(project, commands.get(2));
    } finally {
      run(Path.of("."), "rm -r '" + place + "'");
    }
  }

  /** Each act as it is called: "of(pull, what)". */
  private static void checkActs(String page, String document) {
    TreeSet<String> due = new TreeSet<>();
    for (MatchResult act : found("(?m)^    public (?:int|long) (\\w+\\(.*\\));$", document)) {
      due.add(act.group(1).replace("int ", ""));
    }
    TreeSet<String> told = new TreeSet<>();
    for (MatchResult row : found("(?m)^\\| [a-z, ]+ \\| (`\\w+\\(.*`) \\|$", page)) {
      found("`([^`]+)`", row.group(1)).forEach(act -> told.add(act.group(1)));
    }
    due("acts", told, due);
  }

  private static void checkFindings(String page) {
    List<String> told = new ArrayList<>();
    for (MatchResult row : found("(?m)^\\| ([A-Z]+) \\| (-\\d+) \\| (\\d) \\| `(\\w+)\\(([^)]*)\\)`.* \\|$", page)) {
      String name = row.group(1);
      told.add(name);
      int[] args = Arrays.stream(row.group(5).split(", ")).filter(a -> !a.isEmpty()).mapToInt(Integer::parseInt).toArray();
      UpOneSide x = Call.replayed(AHEAD.getOrDefault(name, List.of()));
      due(name + " of " + row.group(4), new Call(row.group(4), args).on(x), Long.valueOf(row.group(2)));
      due("status of " + name, x.status(Integer.parseInt(row.group(3))), 1);
      due("status of all", x.status(-1), 1);
    }
    due("findings", told, Edge.FINDINGS);
  }

  private static void checkTests(String page) throws IOException {
    TreeSet<String> due = new TreeSet<>();
    try (Stream<Path> files = Files.list(Path.of("src/test/java"))) {
      files.map(f -> f.getFileName().toString()).filter(f -> f.endsWith("Test.java"))
          .forEach(f -> due.add(f.replace(".java", "")));
    }
    TreeSet<String> told = new TreeSet<>();
    for (MatchResult line : found("(?m)^- (`.*`):", page)) {
      found("`(\\w+)`", line.group(1)).forEach(test -> told.add(test.group(1)));
    }
    due("tests", told, due);
  }

  public static void main(String[] args) throws IOException, InterruptedException {
    String page = Files.readString(Path.of("README.md"));
    checkCommands(page);
    checkActs(page, Files.readString(Path.of("../shared/DOC.md")));
    checkFindings(page);
    checkTests(page);
    System.out.println(checks + " things told, " + wrong + " not so");
    if (wrong != 0) {
      System.exit(1);
    }
  }
}
