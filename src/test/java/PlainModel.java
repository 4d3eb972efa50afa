import java.math.BigInteger;
import java.util.ArrayDeque;
import java.util.ArrayList;
import java.util.Arrays;
import java.util.HashMap;
import java.util.LinkedHashMap;
import java.util.List;
import java.util.Map;

/**
 * The document once more, by way of the Java library and without any care for speed or room: each
 * act is called by its name, so that runs can be compared with those of UpOneSide.
 */
final class PlainModel {
  private static final int BEYOND = 0, FULL = 1, KIND = 2, NONE = 3, STATE = 4, MISSING = 5, SIZE = 6;
  private static final List<String> KINDS =
      List.of("pull", "even", "slanting", "slipping", "fanned", "caught", "jammed");
  private static final Map<String, String> UNDER = Map.of("even", "pull", "slanting", "pull", "caught", "pull",
      "slipping", "slanting", "fanned", "slipping", "jammed", "caught");

  /** What an image keeps. */
  private static final class Room implements Cloneable {
    int l, r, done, z = 1;
    List<int[]> pulls = new ArrayList<>();
    int[] rules = {0, 1, 0, 60, 1, 20};
    int[] prices = {1, 4, 30, 2};
    int[] wear = new int[61];
    int[] sun = new int[24];
    Map<Integer, Integer> spots = new HashMap<>();

    Room twin() {
      Room t = new Room();
      t.l = l;
      t.r = r;
      t.done = done;
      t.z = z;
      pulls.forEach(p -> t.pulls.add(p.clone()));
      t.rules = rules.clone();
      t.prices = prices.clone();
      t.wear = wear.clone();
      t.sun = sun.clone();
      t.spots.putAll(spots);
      return t;
    }

    int off() {
      return Math.abs(l - r);
    }

    int[] lifts(int pull) {
      int[] p = pulls.get(pull);
      int by = p[1], lean = p[2], slip = rules[1], half = (l - r) / 2;
      int[] plain = {by, by - slip};
      int[] slanting = {plain[0] + lean, plain[1] - lean};
      int[] slipping = {slanting[0], slanting[1] - slip};
      int[] caught = {l >= rules[3] ? 0 : plain[0], plain[1]};
      int[][] kinds = {plain, {by - half, by + half}, slanting, slipping, {2 * slipping[0], slipping[1]}, caught,
          {caught[0], r > l ? caught[1] / 2 : caught[1]}};
      int[] lifts = kinds[p[0]].clone();
      if (rules[2] != 0) {
        int tens = l / 10;
        int wound = tens * rules[2];
        lifts[0] += wound / 4;
      }
      if (r >= 30) {
        lifts[1] += rules[0];
      }
      return lifts;
    }

    void pulled(int pull) {
      int[] lifts = lifts(pull);
      wear[l] = Math.min(9999, wear[l] + 1);
      done++;
      l = Math.max(0, Math.min(60, l + lifts[0]));
      r = Math.max(0, Math.min(60, r + lifts[1]));
    }

    Room behind(int pull, int n) {
      Room t = twin();
      for (int i = 0; i < n; i++) {
        t.pulled(pull);
      }
      return t;
    }

    boolean inEyes(int hour, int right) {
      return right > sun[hour] && sun[hour] >= rules[5];
    }

    int light(int hour, int left, int right) {
      return Math.max(0, left - sun[hour]) + Math.max(0, right - sun[hour]);
    }

    int mend(int set) {
      int cost = 0;
      int[] rule = {1, 0, 2, 3};
      for (int i = 0; i < 4; i++) {
        if ((set >> i & 1) == 1) {
          rules[rule[i]] = i == 3 ? 60 : 0;
          cost += prices[i];
        }
      }
      return cost;
    }
  }

  private record Page(int bits, int[] numbers) {}

  private Room room = new Room();
  private Room kept = null;
  private final List<Integer> tape = new ArrayList<>();
  private final Map<Integer, Page> pages = new HashMap<>();
  private final int[] found = new int[7];

  private long finding(int which) {
    found[which]++;
    return -1000001 - which;
  }

  private static boolean in(int v, int least, int most) {
    return least <= v && v <= most;
  }

  private boolean isPull(int pull) {
    return in(pull, 0, room.pulls.size() - 1);
  }

  /** The rows by which each pair is come to first, in the order in which they are found. */
  private Map<List<Integer>, List<Integer>> rows() {
    Map<List<Integer>, List<Integer>> rows = new LinkedHashMap<>();
    ArrayDeque<List<Integer>> waiting = new ArrayDeque<>();
    waiting.add(List.of(room.l, room.r));
    rows.put(List.of(room.l, room.r), List.of());
    while (!waiting.isEmpty()) {
      List<Integer> pair = waiting.poll();
      for (int pull = 0; pull < room.pulls.size(); pull++) {
        Room t = room.twin();
        t.l = pair.get(0);
        t.r = pair.get(1);
        t.pulled(pull);
        List<Integer> to = List.of(t.l, t.r);
        if (!rows.containsKey(to)) {
          List<Integer> row = new ArrayList<>(rows.get(pair));
          row.add(pull);
          rows.put(to, row);
          waiting.add(to);
        }
      }
    }
    return rows;
  }

  private static int compare(List<Integer> a, List<Integer> b) {
    return a.size() != b.size() ? Integer.compare(a.size(), b.size()) : Arrays.compare(
        a.stream().mapToInt(i -> i).toArray(), b.stream().mapToInt(i -> i).toArray());
  }

  private List<Integer> leastRow(int h) {
    return rows().entrySet().stream()
        .filter(e -> e.getKey().get(0).equals(e.getKey().get(1)) && e.getKey().get(0) >= h)
        .map(Map.Entry::getValue).min(PlainModel::compare).orElse(null);
  }

  private int[] cheapest(int pull, int n, int v) {
    int[] best = null;
    for (int set = 15; set >= 0; set--) {
      Room t = room.twin();
      int cost = t.mend(set);
      if (t.behind(pull, n).off() <= v && (best == null || cost <= best[1])) {
        best = new int[] {set, cost};
      }
    }
    return best;
  }

  private static long fraction(BigInteger above, BigInteger below, int what) {
    BigInteger part = above.gcd(below);
    return (what == 0 ? above : below).divide(part).longValueExact();
  }

  private BigInteger odds(Room t) {
    return BigInteger.valueOf(10000 - Math.min(10000, t.rules[4] * t.wear[t.l]));
  }

  private List<Integer> fitting(Page page, int pull) {
    List<Integer> pairs = new ArrayList<>();
    for (int slip = 0; slip <= 9; slip++) {
      for (int wind = 0; wind <= 9; wind++) {
        Room t = room.twin();
        t.rules[1] = slip;
        t.rules[2] = wind;
        boolean fits = true;
        for (int i = 0; i < page.numbers.length; i++) {
          if (i % 2 == 0) {
            t.pulled(pull);
          }
          fits &= page.numbers[i] == -1 || page.numbers[i] == (i % 2 == 0 ? t.l : t.r);
        }
        if (fits) {
          pairs.add(10 * slip + wind);
        }
      }
    }
    return pairs;
  }

  // ---- texts, by a list of tokens

  private record Token(String sign, int at) {}

  private static final class Fault extends RuntimeException {
    final int at;

    Fault(int at) {
      this.at = at;
    }
  }

  private final List<Token> tokens = new ArrayList<>();
  private int next;

  private void cut() {
    tokens.clear();
    next = 0;
    StringBuilder text = new StringBuilder();
    tape.forEach(b -> text.append((char) (int) b));
    java.util.regex.Matcher m = java.util.regex.Pattern.compile("[a-z]+|[0-9]+|.", java.util.regex.Pattern.DOTALL)
        .matcher(text);
    while (m.find()) {
      if (!m.group().equals(" ")) {
        tokens.add(new Token(m.group(), m.start()));
      }
    }
    tokens.add(new Token("", text.length()));
  }

  private boolean take(String sign) {
    boolean is = tokens.get(next).sign.equals(sign);
    next += is ? 1 : 0;
    return is;
  }

  private int number(int most, boolean signed) {
    boolean minus = signed && take("-");
    Token token = tokens.get(next);
    if (!token.sign.matches("[0-9]+") || new BigInteger(token.sign).compareTo(BigInteger.valueOf(most)) > 0) {
      throw new Fault(token.at);
    }
    next++;
    return (minus ? -1 : 1) * Integer.parseInt(token.sign.replaceAll("^0+(?=.)", ""));
  }

  private void item(Room t) {
    Token token = tokens.get(next++);
    if (KINDS.contains(token.sign)) {
      if (t.pulls.size() == 8) {
        throw new Fault(token.at);
      }
      int by = take("by") ? number(30, true) : 5;
      int lean = take("lean") ? number(9, true) : 0;
      t.pulls.add(new int[] {KINDS.indexOf(token.sign), by, lean});
      return;
    }
    switch (token.sign) {
      case "knot" -> t.rules[0] = number(9, true);
      case "slip" -> t.rules[1] = number(9, false);
      case "wind" -> t.rules[2] = number(9, false);
      case "curtain" -> t.rules[3] = number(60, false);
      case "chair" -> t.rules[5] = number(60, false);
      case "sun" -> {
        int hour = number(23, false);
        t.sun[hour] = number(60, false);
      }
      case "up" -> {
        t.l = number(60, false);
        t.r = number(60, false);
      }
      default -> throw new Fault(token.at);
    }
  }

  private long read() {
    cut();
    tape.clear();
    Room t = room.twin();
    try {
      int items = 0;
      do {
        item(t);
        items++;
      } while (take(";"));
      if (next != tokens.size() - 1) {
        throw new Fault(tokens.get(next).at);
      }
      room = t;
      return items;
    } catch (Fault fault) {
      return -1 - fault.at;
    }
  }

  // ---- the acts by name

  long call(String act, int... a) {
    switch (act) {
      case "pull":
        if (!in(a[0], 0, 6)) {
          return finding(BEYOND);
        }
        if (room.pulls.size() == 8) {
          return finding(FULL);
        }
        room.pulls.add(new int[] {a[0], 5, 0});
        return room.pulls.size() - 1;
      case "of":
        if (!isPull(a[0]) || !in(a[1], 0, 4)) {
          return finding(BEYOND);
        }
        return a[1] < 3 ? room.pulls.get(a[0])[a[1]] : room.lifts(a[0])[a[1] - 3];
      case "change": {
        int[][] ends = {{0, 6}, {-30, 30}, {-9, 9}};
        if (!isPull(a[0]) || !in(a[1], 0, 2) || !in(a[2], ends[a[1]][0], ends[a[1]][1])) {
          return finding(BEYOND);
        }
        int was = room.pulls.get(a[0])[a[1]];
        room.pulls.get(a[0])[a[1]] = a[2];
        return was;
      }
      case "rule": {
        int[][] ends = {{-9, 9}, {0, 9}, {0, 9}, {0, 60}, {0, 99}, {0, 60}};
        if (!in(a[0], 0, 5) || !in(a[1], ends[a[0]][0], ends[a[0]][1])) {
          return finding(BEYOND);
        }
        int was = room.rules[a[0]];
        room.rules[a[0]] = a[1];
        return was;
      }
      case "ruled":
        return in(a[0], 0, 5) ? room.rules[a[0]] : finding(BEYOND);
      case "price": {
        if (!in(a[0], 0, 3) || !in(a[1], 0, 99)) {
          return finding(BEYOND);
        }
        int was = room.prices[a[0]];
        room.prices[a[0]] = a[1];
        return was;
      }
      case "up":
        if (!in(a[0], 0, 60) || !in(a[1], 0, 60)) {
          return finding(BEYOND);
        }
        room.l = a[0];
        room.r = a[1];
        return room.l - room.r;
      case "does":
        if (!isPull(a[0])) {
          return finding(BEYOND);
        }
        room.pulled(a[0]);
        return room.l - room.r;
      case "now":
        if (!in(a[0], 0, 4)) {
          return finding(BEYOND);
        }
        return new int[] {room.l, room.r, room.l - room.r, room.done, room.wear[room.l]}[a[0]];
      case "wear":
        return in(a[0], 0, 60) ? room.wear[a[0]] : finding(BEYOND);
      case "cord": {
        int all = Arrays.stream(room.wear).sum();
        room.wear = new int[61];
        return all;
      }
      default:
        return level(act, a);
    }
  }

  private long level(String act, int[] a) {
    switch (act) {
      case "after": {
        if (!isPull(a[0]) || !in(a[1], 0, 200)) {
          return finding(BEYOND);
        }
        Room t = room.behind(a[0], a[1]);
        return t.l - t.r;
      }
      case "sign": {
        if (!isPull(a[0])) {
          return finding(BEYOND);
        }
        int sign = Integer.compare(room.behind(a[0], 40).off(), room.off());
        return sign < 0 ? 2 : sign;
      }
      case "stays":
        if (!isPull(a[0])) {
          return finding(BEYOND);
        }
        for (int n = 0; n <= 200; n++) {
          Room t = room.behind(a[0], n);
          Room u = room.behind(a[0], n + 1);
          if (t.l == u.l && t.r == u.r) {
            return n;
          }
        }
        return finding(NONE);
      case "often":
        if (!isPull(a[0]) || !in(a[1], 0, 60)) {
          return finding(BEYOND);
        }
        for (int n = 0; n <= 200; n++) {
          if (room.behind(a[0], n).off() > a[1]) {
            return n;
          }
        }
        return finding(NONE);
      case "knot": {
        if (!isPull(a[0]) || !in(a[1], 0, 20)) {
          return finding(BEYOND);
        }
        List<int[]> tried = new ArrayList<>();
        for (int knot = -9; knot <= 9; knot++) {
          Room t = room.twin();
          t.rules[0] = knot;
          tried.add(new int[] {t.behind(a[0], a[1]).off(), Math.abs(knot), knot});
        }
        return tried.stream().min(Arrays::compare).get()[2];
      }
      case "kindFor": {
        if (!isPull(a[0]) || !in(a[1], 0, 20)) {
          return finding(BEYOND);
        }
        List<int[]> tried = new ArrayList<>();
        for (int kind = 0; kind <= 6; kind++) {
          Room t = room.twin();
          t.pulls.get(a[0])[0] = kind;
          tried.add(new int[] {t.behind(a[0], a[1]).off(), kind});
        }
        return tried.stream().min(Arrays::compare).get()[1];
      }
      case "fewest": {
        if (!in(a[0], 0, 60)) {
          return finding(BEYOND);
        }
        List<Integer> row = leastRow(a[0]);
        return row == null ? finding(NONE) : row.size();
      }
      case "first": {
        if (!in(a[0], 0, 60)) {
          return finding(BEYOND);
        }
        List<Integer> row = leastRow(a[0]);
        return row == null || row.isEmpty() ? finding(NONE) : row.get(0);
      }
      case "states":
        return rows().size();
      case "worst":
        return rows().keySet().stream().mapToInt(p -> Math.abs(p.get(0) - p.get(1))).max().getAsInt();
      default:
        return mendsAndSun(act, a);
    }
  }

  private long mendsAndSun(String act, int[] a) {
    switch (act) {
      case "mends":
      case "costs": {
        if (!isPull(a[0]) || !in(a[1], 0, 20) || !in(a[2], 0, 60)) {
          return finding(BEYOND);
        }
        int[] best = cheapest(a[0], a[1], a[2]);
        return best == null ? finding(NONE) : best[act.equals("mends") ? 0 : 1];
      }
      case "mended":
        return in(a[0], 0, 15) ? room.mend(a[0]) : finding(BEYOND);
      case "sun": {
        if (!in(a[0], 0, 23) || !in(a[1], 0, 60)) {
          return finding(BEYOND);
        }
        int was = room.sun[a[0]];
        room.sun[a[0]] = a[1];
        return was;
      }
      case "hour":
        if (!in(a[0], 0, 23) || !in(a[1], 0, 2)) {
          return finding(BEYOND);
        }
        return new int[] {room.sun[a[0]], room.inEyes(a[0], room.r) ? 1 : 0, room.light(a[0], room.l, room.r)}[a[1]];
      case "eyes": {
        int set = 0;
        for (int hour = 0; hour < 24; hour++) {
          set += room.inEyes(hour, room.r) ? 1 << hour : 0;
        }
        return set;
      }
      case "best": {
        int best = -1, most = -1;
        for (int h = 60; h >= 0; h--) {
          int light = 0;
          boolean eyes = false;
          for (int hour = 0; hour < 24; hour++) {
            light += room.light(hour, h, h);
            eyes |= room.inEyes(hour, h);
          }
          if (!eyes && light >= most) {
            most = light;
            best = h;
          }
        }
        return best;
      }
      case "where": {
        int most = Arrays.stream(room.wear).max().getAsInt();
        int at = 0;
        while (room.wear[at] != most) {
          at++;
        }
        return at;
      }
      case "holds":
        return in(a[0], 0, 1) ? fraction(odds(room), BigInteger.valueOf(10000), a[0]) : finding(BEYOND);
      case "lasts": {
        if (!isPull(a[0]) || !in(a[1], 0, 4) || !in(a[2], 0, 1)) {
          return finding(BEYOND);
        }
        BigInteger above = BigInteger.ONE;
        for (int n = 0; n < a[1]; n++) {
          above = above.multiply(odds(room.behind(a[0], n)));
        }
        return fraction(above, BigInteger.valueOf(10000).pow(a[1]), a[2]);
      }
      case "fits":
      case "slips": {
        if (!in(a[0], 0, 3)) {
          return finding(BEYOND);
        }
        if (!pages.containsKey(a[0])) {
          return finding(MISSING);
        }
        if (!isPull(a[1])) {
          return finding(BEYOND);
        }
        List<Integer> pairs = fitting(pages.get(a[0]), a[1]);
        if (act.equals("fits")) {
          return pairs.size();
        }
        return pairs.isEmpty() ? finding(NONE) : pairs.get(0);
      }
      default:
        return rest(act, a);
    }
  }

  private long rest(String act, int[] a) {
    switch (act) {
      case "hands": {
        if (!in(a[0], 1, 20)) {
          return finding(BEYOND);
        }
        if (room.pulls.isEmpty()) {
          return finding(STATE);
        }
        int grew = 0;
        for (int i = 0; i < a[0]; i++) {
          room.z = BigInteger.valueOf(room.z).multiply(BigInteger.valueOf(1103515245)).add(BigInteger.valueOf(12345))
              .intValue();
          long unsigned = room.z & 0xffffffffL;
          int before = room.off();
          room.pulled((int) (unsigned / 256 % room.pulls.size()));
          grew += room.off() > before ? 1 : 0;
        }
        return grew;
      }
      case "seed": {
        int was = room.z;
        room.z = a[0];
        return was;
      }
      case "feed":
        if (!in(a[1], 1, 4)) {
          return finding(BEYOND);
        }
        if (tape.size() > 120 - a[1]) {
          return finding(FULL);
        }
        byte[] all = {(byte) (a[0] >> 24), (byte) (a[0] >> 16), (byte) (a[0] >> 8), (byte) a[0]};
        for (int i = 4 - a[1]; i < 4; i++) {
          tape.add(all[i] & 255);
        }
        return tape.size();
      case "wipe": {
        int had = tape.size();
        tape.clear();
        return had;
      }
      case "text":
        return read();
      case "hold":
        if (!in(a[0], 0, 9) || !(a[1] == -1 || isPull(a[1]))) {
          return finding(BEYOND);
        }
        room.spots.put(a[0], a[1]);
        if (a[1] == -1) {
          room.spots.remove(a[0]);
        }
        return 1;
      case "as": {
        if (!in(a[0], 0, 9) || !in(a[1], 0, 6)) {
          return finding(BEYOND);
        }
        Integer pull = room.spots.get(a[0]);
        if (pull == null) {
          return finding(MISSING);
        }
        for (String k = KINDS.get(room.pulls.get(pull)[0]); k != null; k = UNDER.get(k)) {
          if (k.equals(KINDS.get(a[1]))) {
            return pull;
          }
        }
        return finding(KIND);
      }
      default:
        return sheets(act, a);
    }
  }

  private long sheets(String act, int[] a) {
    switch (act) {
      case "sheet":
        if (!in(a[0], 0, 3) || !List.of(0, 8, 16, 32).contains(a[1])) {
          return finding(BEYOND);
        }
        if (a[2] < 0) {
          return finding(SIZE);
        }
        if (a[2] > 40) {
          return finding(BEYOND);
        }
        pages.remove(a[0]);
        if (a[1] != 0) {
          pages.put(a[0], new Page(a[1], new int[a[2]]));
        }
        return a[1] == 0 ? 0 : a[2];
      case "write": {
        if (!in(a[0], 0, 3)) {
          return finding(BEYOND);
        }
        Page page = pages.get(a[0]);
        if (page == null) {
          return finding(MISSING);
        }
        if (!in(a[1], 0, page.numbers.length - 1)) {
          return finding(BEYOND);
        }
        int shift = 32 - page.bits;
        page.numbers[a[1]] = a[2] << shift >> shift;
        return 1;
      }
      case "copy": {
        if (!in(a[0], 0, 3) || !in(a[2], 0, 3)) {
          return finding(BEYOND);
        }
        Page from = pages.get(a[0]);
        Page to = pages.get(a[2]);
        if (from == null || to == null) {
          return finding(MISSING);
        }
        if (from.bits != to.bits) {
          return finding(KIND);
        }
        if (a[1] < 0 || a[3] < 0 || a[4] < 0 || (long) a[1] + a[4] > from.numbers.length
            || (long) a[3] + a[4] > to.numbers.length) {
          return finding(BEYOND);
        }
        int[] numbers = from.numbers.clone();
        for (int i = 0; i < a[4]; i++) {
          to.numbers[a[3] + i] = numbers[a[1] + i];
        }
        return a[4];
      }
      case "load":
      case "judge":
        if (!in(a[0], 0, 3)) {
          return finding(BEYOND);
        }
        if (!pages.containsKey(a[0])) {
          return finding(MISSING);
        }
        return act.equals("load") ? load(pages.get(a[0]).numbers) : judge(pages.get(a[0]).numbers);
      default:
        return images(act, a);
    }
  }

  private int load(int[] numbers) {
    int came = 0;
    for (int number : numbers) {
      if (!in(number, 0, 60) || came == 24) {
        break;
      }
      room.sun[came++] = number;
    }
    return came;
  }

  private long judge(int[] numbers) {
    if (!Arrays.stream(numbers).allMatch(this::isPull)) {
      return finding(STATE);
    }
    Room t = room.twin();
    int most = t.off();
    for (int number : numbers) {
      t.pulled(number);
      most = Math.max(most, t.off());
    }
    return most;
  }

  private long images(String act, int[] a) {
    switch (act) {
      case "image":
        kept = room.twin();
        return 1;
      case "undo":
        if (kept == null) {
          return finding(NONE);
        }
        room = kept.twin();
        return room.l;
      case "tear": {
        int was = kept == null ? 0 : 1;
        kept = null;
        return was;
      }
      case "count":
        if (!in(a[0], 0, 7)) {
          return finding(BEYOND);
        }
        return new int[] {room.l, room.pulls.size(), room.r, room.done, Arrays.stream(room.wear).sum(), tape.size(),
            room.z, room.spots.size()}[a[0]];
      case "status":
        if (a[0] == -1) {
          return Arrays.stream(found).sum();
        }
        return in(a[0], 0, 6) ? found[a[0]] : finding(BEYOND);
      default:
        throw new IllegalArgumentException(act);
    }
  }
}
