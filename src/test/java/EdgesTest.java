import java.io.IOException;
import java.nio.file.Files;
import java.nio.file.Path;
import java.util.ArrayList;
import java.util.HashMap;
import java.util.HashSet;
import java.util.List;
import java.util.Map;
import java.util.Set;
import java.util.TreeSet;
import java.util.regex.Matcher;
import java.util.regex.Pattern;
import java.util.stream.Stream;

/**
 * Runs the edges under src/test/edges, one by one, each on new objects: what an edge quotes must stand
 * in the document, and each finding that the document names of an act must be shown by an edge.
 */
public final class EdgesTest {
  private static final Path DOC = Path.of("../shared/DOC.md");
  private static final Path EDGES = Path.of("src/test/edges");
  private static final Set<String> OUT_OF_REACH = Set.of("does STATE");

  private static int wrong = 0;

  private EdgesTest() {}

  private static void wrong(String what) {
    wrong++;
    System.out.println(what);
  }

  private static String oneLine(String text) {
    return text.replaceAll("\\s+", " ");
  }

  /** The document's sections by their promise's number, "Terms" the one ahead of them. */
  private static Map<String, String> sections() throws IOException {
    Map<String, String> sections = new HashMap<>();
    for (String section : Files.readString(DOC).split("(?m)^## ")) {
      Matcher heading = Pattern.compile("^(?:Promise )?(\\w+)[^\n]*\n").matcher(section);
      if (heading.find()) {
        sections.put(heading.group(1), oneLine(section));
      }
    }
    return sections;
  }

  /** All edges; the rooms that stand among them come into the map. */
  static List<Edge> edges(Map<String, List<String>> rooms) throws IOException {
    List<Edge> edges = new ArrayList<>();
    try (Stream<Path> files = Files.list(EDGES)) {
      for (Path file : files.sorted().toList()) {
        edges.addAll(Edge.read(Files.readAllLines(file), rooms));
      }
    }
    return edges;
  }

  private static void checkQuotes(List<Edge> edges, Map<String, String> sections) {
    Set<String> quoted = new HashSet<>();
    for (Edge edge : edges) {
      quoted.add(edge.section());
      if (!sections.getOrDefault(edge.section(), "").contains(edge.quote())) {
        wrong("not in the document: " + edge.title());
      }
    }
    for (int promise = 1; promise <= 51; promise++) {
      if (!quoted.contains(Integer.toString(promise))) {
        wrong("no edge of promise " + promise);
      }
    }
  }

  private static void checkFindings(Map<String, String> sections, Set<String> shown) {
    Set<String> missing = new TreeSet<>();
    for (int promise = 2; promise <= 51; promise++) {
      String section = sections.get(Integer.toString(promise));
      String act = section.replaceAll("^Promise \\d+: (\\w+) .*", "$1");
      // Elsewhere in a sentence such a word is one of the terms.
      Matcher findings = Pattern.compile("[.:] (" + String.join("|", Edge.FINDINGS) + ")(?=[.:]| likewise| \\(counted)")
          .matcher(section);
      while (findings.find()) {
        missing.add(act + " " + findings.group(1));
      }
    }
    missing.removeAll(shown);
    missing.removeAll(OUT_OF_REACH);
    missing.forEach(m -> wrong("no edge shows " + m));
  }

  public static void main(String[] args) throws IOException {
    List<Edge> edges = edges(new HashMap<>());
    Map<String, String> sections = sections();
    checkQuotes(edges, sections);
    EdgeRun.Tally tally = new EdgeRun.Tally();
    for (Edge edge : edges) {
      for (String fault : EdgeRun.faults(edge, tally)) {
        wrong(edge.title() + ": " + fault);
      }
    }
    checkFindings(sections, tally.shown);
    System.out.println(edges.size() + " edges, " + tally.calls + " calls, " + tally.twins + " seen to change nothing, "
        + wrong + " wrong");
    if (wrong != 0 || edges.isEmpty()) {
      System.exit(1);
    }
  }
}
