import java.lang.reflect.Method;
import java.util.ArrayList;
import java.util.Arrays;
import java.util.Comparator;
import java.util.List;
import java.util.Random;

/** Runs of 512 calls, drawn by told seeds, of UpOneSide and of the plain model side by side. */
public final class RandomRunsTest {
  private static final int RUNS = 600;
  private static final int CALLS = 512;
  private static final String[] ITEMS = {"pull", "even", "slanting", "slipping", "fanned", "caught", "jammed", "by", "lean",
      "knot", "slip", "wind", "curtain", "chair", "sun", "up", ";", ";", "-", " ", "break"};

  private final Random draws;
  private final UpOneSide object = new UpOneSide();
  private final PlainModel model = new PlainModel();
  private final List<Method> acts = new ArrayList<>();
  private final StringBuilder told = new StringBuilder();
  private int calls = 0;

  private RandomRunsTest(int seed) {
    draws = new Random(seed);
    for (Method method : UpOneSide.class.getDeclaredMethods()) {
      if (java.lang.reflect.Modifier.isPublic(method.getModifiers())) {
        acts.add(method);
      }
    }
    acts.sort(Comparator.comparing(Method::getName));
  }

  private boolean same(String act, int... a) throws Exception {
    calls++;
    Class<?>[] types = new Class<?>[a.length];
    Arrays.fill(types, int.class);
    Object[] boxed = Arrays.stream(a).boxed().toArray();
    long got = ((Number) UpOneSide.class.getMethod(act, types).invoke(object, boxed)).longValue();
    long want = model.call(act, a);
    told.append(act).append(Arrays.toString(a)).append(" = ").append(got).append('\n');
    if (got != want) {
      System.out.println(told + "due is " + want);
    }
    return got == want;
  }

  private int number(int most) {
    switch (draws.nextInt(40)) {
      case 0:
        return -1;
      case 1:
        return most + 1;
      case 2:
        return draws.nextInt();
      default:
        return most < 0 ? -1 : draws.nextInt(most + 1);
    }
  }

  private int pulls() {
    return (int) model.call("count", 1) - 1;
  }

  private String signed(int most) {
    return (draws.nextInt(3) == 0 ? "-" : "") + number(most);
  }

  private String item() {
    String blank = draws.nextBoolean() ? " " : "  ";
    switch (draws.nextInt(12)) {
      case 0:
        return "knot" + blank + signed(9);
      case 1:
        return (draws.nextBoolean() ? "slip" : "wind") + blank + number(9);
      case 2:
        return (draws.nextBoolean() ? "curtain" : "chair") + number(60);
      case 3:
        return "sun " + number(23) + blank + number(60);
      case 4:
        return "up" + blank + number(60) + " " + number(60);
      case 5:
        return ITEMS[draws.nextInt(ITEMS.length)] + blank + ITEMS[draws.nextInt(ITEMS.length)] + number(9);
      default:
        return ITEMS[draws.nextInt(7)] + (draws.nextBoolean() ? " by" + blank + signed(30) : "")
            + (draws.nextBoolean() ? blank + "lean " + signed(9) : "");
    }
  }

  private boolean text() throws Exception {
    StringBuilder text = new StringBuilder(item());
    for (int i = draws.nextInt(6); i > 0; i--) {
      text.append(draws.nextInt(8) == 0 ? "" : ";").append(item());
    }
    if (draws.nextInt(6) == 0) {
      text.setCharAt(draws.nextInt(text.length()), (char) draws.nextInt(256));
    }
    boolean same = true;
    for (int at = 0; same && at < text.length();) {
      int n = Math.min(text.length() - at, 1 + draws.nextInt(4));
      int bytes = draws.nextInt();
      for (int i = 0; i < n; i++) {
        bytes = bytes << 8 | text.charAt(at++);
      }
      same = same("feed", bytes, n);
    }
    return same && same("text");
  }

  private boolean sheet() throws Exception {
    int s = draws.nextInt(4);
    int n = draws.nextInt(9);
    boolean same = same("sheet", s, new int[] {8, 16, 32}[draws.nextInt(3)], n);
    for (int i = 0; same && i < n; i++) {
      same = same("write", s, i, draws.nextInt(4) == 0 ? -1 : number(draws.nextBoolean() ? 60 : pulls()));
    }
    return same;
  }

  /** A sheet of what a pull with another slip and wind would come to. */
  private boolean track() throws Exception {
    if (pulls() < 0) {
      return true;
    }
    int pull = draws.nextInt(pulls() + 1);
    int n = 1 + draws.nextInt(7);
    boolean same = same("image") && same("rule", 1, draws.nextInt(10)) && same("rule", 2, draws.nextInt(10))
        && same("sheet", 0, 8, n);
    for (int i = 0; same && i < n; i++) {
      same = (i % 2 != 0 || same("does", pull))
          && same("write", 0, i, draws.nextInt(5) == 0 ? 255 : (int) model.call("now", i % 2));
    }
    return same && same("undo") && same("fits", 0, pull) && same("slips", 0, pull);
  }

  private int argument(String name, int at, int[] before) {
    switch (name + at) {
      case "of0": case "change0": case "does0": case "after0": case "sign0": case "stays0": case "often0": case "knot0":
      case "kindFor0": case "mends0": case "costs0": case "lasts0": case "fits1": case "slips1": case "hold1":
        return number(pulls());
      case "pull0": case "as1":
        return number(6);
      case "of1": case "now0":
        return number(4);
      case "change1": case "hour1":
        return number(2);
      case "change2":
        return number(new int[] {6, 30, 9}[Math.floorMod(before[1], 3)]) * (before[1] > 0 && draws.nextBoolean() ? -1 : 1);
      case "rule0": case "ruled0":
        return number(5);
      case "rule1":
        return number(new int[] {9, 9, 9, 60, 99, 60}[Math.floorMod(before[0], 6)])
            * (before[0] == 0 && draws.nextBoolean() ? -1 : 1);
      case "price0":
        return number(3);
      case "price1":
        return number(draws.nextBoolean() ? 3 : 99);
      case "after1":
        return number(200);
      case "knot1": case "kindFor1": case "mends1": case "costs1": case "hands0":
        return number(draws.nextBoolean() ? 3 : 20);
      case "mends2": case "costs2":
        return number(draws.nextBoolean() ? 6 : 60);
      case "mended0":
        return number(15);
      case "sun0": case "hour0":
        return number(23);
      case "holds0": case "lasts2":
        return number(1);
      case "lasts1": case "feed1":
        return number(4);
      case "fits0": case "slips0": case "sheet0": case "write0": case "copy0": case "copy2": case "load0": case "judge0":
        return number(3);
      case "sheet1":
        return number(3) * 8;
      case "sheet2":
        return number(40);
      case "write1": case "copy1": case "copy3": case "copy4":
        return number(8);
      case "hold0": case "as0":
        return number(9);
      case "count0":
        return number(7);
      case "status0":
        return number(7) - 1;
      case "seed0": case "feed0":
        return draws.nextInt();
      default:
        return number(60);
    }
  }

  private boolean one() throws Exception {
    int way = draws.nextInt(40);
    if (way == 0) {
      return text();
    }
    if (way == 1) {
      return sheet();
    }
    if (way == 2) {
      return track();
    }
    Method act = acts.get(draws.nextInt(acts.size()));
    String name = act.getName();
    // The model's search is slow, and what mends for good leaves little to find.
    boolean rare = List.of("fewest", "first", "states", "worst", "mended", "cord", "wipe").contains(name);
    if (rare && draws.nextInt(4) != 0) {
      return true;
    }
    int[] a = new int[act.getParameterCount()];
    for (int i = 0; i < a.length; i++) {
      a[i] = argument(name, i, a);
    }
    return same(name, a);
  }

  public static void main(String[] args) throws Exception {
    int wrong = 0;
    long calls = 0;
    for (int seed = 0; seed < RUNS && wrong < 3; seed++) {
      RandomRunsTest run = new RandomRunsTest(seed);
      while (run.calls < CALLS - 40) {
        if (!run.one()) {
          System.out.println("run " + seed);
          wrong++;
          break;
        }
      }
      calls += run.calls;
    }
    System.out.println(calls + " calls in " + RUNS + " runs, " + wrong + " runs wrong");
    if (wrong != 0) {
      System.exit(1);
    }
  }
}
