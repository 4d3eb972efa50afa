import java.util.ArrayList;
import java.util.List;
import java.util.Map;

/** A boundary case: what the document says of it, and the lines of calls that show it. */
record Edge(String section, String quote, List<String> lines) {
  static final List<String> FINDINGS = List.of("BEYOND", "FULL", "KIND", "NONE", "STATE", "MISSING", "SIZE");

  String title() {
    return section + " \"" + quote + "\"";
  }

  /**
   * Of lines: "# 13 words of the document" begins an edge, "@ name" a room, whose lines stand in place of
   * a line "in name"; blank lines and those that begin with // count for nothing.
   */
  static List<Edge> read(List<String> lines, Map<String, List<String>> rooms) {
    List<Edge> edges = new ArrayList<>();
    List<String> open = new ArrayList<>();
    for (String line : lines) {
      if (line.startsWith("# ")) {
        String[] parts = line.split(" ", 3);
        open = new ArrayList<>();
        edges.add(new Edge(parts[1], parts[2].strip(), open));
      } else if (line.startsWith("@ ")) {
        open = new ArrayList<>();
        rooms.put(line.substring(2), open);
      } else if (line.startsWith("in ")) {
        List<String> room = rooms.get(line.substring(3));
        if (room == null) {
          throw new IllegalArgumentException(line);
        }
        open.addAll(room);
      } else if (!line.isBlank() && !line.startsWith("//")) {
        open.add(line);
      }
    }
    return edges;
  }
}
