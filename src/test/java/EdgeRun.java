import java.util.ArrayList;
import java.util.Arrays;
import java.util.List;
import java.util.Set;
import java.util.TreeSet;
import java.util.regex.Matcher;
import java.util.regex.Pattern;

/**
 * Runs an edge's lines on one object. Of each call that is answered by a finding, or that only tells, it
 * also looks (on further objects) if nothing has changed but status().
 */
final class EdgeRun {
  /** What has been run of all edges. */
  static final class Tally {
    final Set<String> shown = new TreeSet<>();
    int calls = 0;
    int twins = 0;
  }

  private static final long ANY = Long.MIN_VALUE;
  private static final Pattern TOLD = Pattern.compile("(told|tape|reads) \"(.*)\"(?: = (.*))?");
  private static final Pattern PAGE = Pattern.compile("page (\\d) (\\d+) :(.*)");
  private static final Pattern TAKES = Pattern.compile("takes (\\w+)(.*) from (\\S+) to (\\S+)");
  private static final Pattern TIMES = Pattern.compile("(\\d+) times (.*)");
  private static final Pattern CALL = Pattern.compile("(\\w+)(.*?)(?: = (.*))?");

  private final Tally tally;
  private final UpOneSide x = new UpOneSide();
  private final List<Call> made = new ArrayList<>();
  private final List<String> faults = new ArrayList<>();

  private EdgeRun(Tally tally) {
    this.tally = tally;
  }

  static List<String> faults(Edge edge, Tally tally) {
    EdgeRun run = new EdgeRun(tally);
    edge.lines().forEach(run::line);
    if (run.made.size() > Twin.MOST_CALLS) {
      run.faults.add("too many calls: " + run.made.size());
    }
    return run.faults;
  }

  /** The calls that such lines make, as those of a room. */
  static List<Call> calls(List<String> lines) {
    EdgeRun run = new EdgeRun(new Tally());
    lines.forEach(run::line);
    return run.made;
  }

  private void line(String line) {
    Matcher m = TOLD.matcher(line);
    if (m.matches()) {
      text(m.group(1), bytes(m.group(2)), m.group(3));
      return;
    }
    m = PAGE.matcher(line);
    if (m.matches()) {
      page(Integer.parseInt(m.group(1)), Integer.parseInt(m.group(2)), numbers(m.group(3)));
      return;
    }
    m = TAKES.matcher(line);
    if (m.matches()) {
      takes(m.group(1), m.group(2), (int) number(m.group(3)), (int) number(m.group(4)));
      return;
    }
    m = TIMES.matcher(line);
    if (m.matches()) {
      for (int i = Integer.parseInt(m.group(1)); i > 0; i--) {
        line(m.group(2));
      }
      return;
    }
    m = CALL.matcher(line);
    if (!m.matches()) {
      throw new IllegalArgumentException(line);
    }
    make(new Call(m.group(1), numbers(m.group(2))), m.group(3) == null ? ANY : number(m.group(3)));
  }

  /** A finding by its name, "fault 8" for -1 less 8, MOST and LEAST of all ints, or a number. */
  private static long number(String word) {
    if (Edge.FINDINGS.contains(word)) {
      return Check.BEYOND - Edge.FINDINGS.indexOf(word);
    }
    if (word.startsWith("fault ")) {
      return -1 - Long.parseLong(word.substring(6));
    }
    return word.equals("MOST") ? Integer.MAX_VALUE : word.equals("LEAST") ? Integer.MIN_VALUE : Long.decode(word);
  }

  private static int[] numbers(String words) {
    return Arrays.stream(words.strip().split(" +")).filter(w -> !w.isEmpty()).mapToInt(w -> (int) number(w)).toArray();
  }

  /** Of a text in which a byte may be told as \xE9. */
  private static int[] bytes(String text) {
    Matcher m = Pattern.compile("\\\\x(..)").matcher(text);
    return m.replaceAll(r -> Matcher.quoteReplacement(Character.toString(Integer.parseInt(r.group(1), 16)))).chars()
        .toArray();
  }

  private void text(String way, int[] bytes, String due) {
    for (int at = 0; at < bytes.length; at += 4) {
      int n = Math.min(4, bytes.length - at);
      int number = 0;
      for (int i = 0; i < n; i++) {
        number = number << 8 | bytes[at + i];
      }
      make(new Call("feed", number, n), ANY);
    }
    if (way.equals("told") && make(new Call("text"), ANY) <= 0) {
      faults.add("not a text");
    }
    if (way.equals("reads")) {
      make(new Call("text"), number(due));
    }
  }

  private void page(int s, int bits, int[] numbers) {
    make(new Call("sheet", s, bits, numbers.length), numbers.length);
    for (int i = 0; i < numbers.length; i++) {
      make(new Call("write", s, i, numbers[i]), 1);
    }
  }

  /** The last values taken on either side, and the first and the last refused, each from here. */
  private void takes(String act, String words, int least, int most) {
    for (int taken : new int[] {least, most}) {
      Call call = withValue(act, words, taken);
      expect(call, call.on(Call.replayed(made)), ANY);
    }
    for (int refused : new int[] {least - 1, most + 1, Integer.MIN_VALUE, Integer.MAX_VALUE}) {
      tryApart(withValue(act, words, refused), Edge.FINDINGS.indexOf("BEYOND"));
    }
  }

  private static Call withValue(String act, String words, int value) {
    return new Call(act, numbers(words.replace("?", Integer.toString(value))));
  }

  private void tryApart(Call call, int finding) {
    long due = Check.BEYOND - finding;
    expect(call, call.on(Call.replayed(made)), due);
    checkNothingChanged(call, due);
  }

  private long make(Call call, long due) {
    long got = call.on(x);
    expect(call, got, due);
    if (isFinding(call, due) || call.tellsOnly()) {
      checkNothingChanged(call, got);
    } else if (call.act().equals("text") && got < 0) {
      checkSame(call, new Call("wipe"));
    }
    made.add(call);
    return got;
  }

  /** Where no answer is told, any will do but a finding. */
  private void expect(Call call, long got, long due) {
    tally.calls++;
    if (due == ANY ? isFinding(call, got) : got != due) {
      faults.add(call + " answered " + got + ", due is " + (due == ANY ? "no finding" : due));
    } else if (isFinding(call, due)) {
      tally.shown.add(call.act() + " " + Edge.FINDINGS.get((int) (Check.BEYOND - due)));
    }
  }

  /** What tells z may answer any int: that is no finding. */
  private static boolean isFinding(Call call, long answer) {
    boolean tellsZ = call.act().equals("seed") || call.act().equals("count") && call.args()[0] == 6;
    return !tellsZ && answer <= Check.BEYOND && answer > Check.BEYOND - Edge.FINDINGS.size();
  }

  private List<Call> madeWith(Call call) {
    List<Call> calls = new ArrayList<>(made);
    calls.add(call);
    return calls;
  }

  private void checkNothingChanged(Call call, long answer) {
    if (!Twin.fits(made)) {
      return;
    }
    tally.twins++;
    int part = Twin.differs(madeWith(call), made);
    if (part >= 0) {
      faults.add(call + " changed what part " + part + " tells");
    }
    List<Long> due = Twin.status(made);
    if (isFinding(call, answer)) {
      int finding = (int) (Check.BEYOND - answer);
      due.set(finding, due.get(finding) + 1);
      due.set(7, due.get(7) + 1);
    }
    if (!Twin.status(madeWith(call)).equals(due)) {
      faults.add(call + " is not counted as due");
    }
  }

  private void checkSame(Call call, Call other) {
    tally.twins++;
    int part = Twin.differs(madeWith(call), madeWith(other));
    if (part >= 0 || !Twin.status(madeWith(call)).equals(Twin.status(madeWith(other)))) {
      faults.add(call + " changed more than " + other + " does: part " + part);
    }
  }
}
