import java.util.ArrayList;
import java.util.List;

/**
 * Tells all that can be seen of an object, part by part, each part on an object of its own: so that
 * two runs of calls can be compared, and no object is used for more than 512 calls.
 */
final class Twin {
  static final int MOST_CALLS = 512;
  // No part takes more calls than this.
  private static final int PART_CALLS = 180;
  private static final int PARTS = 14;

  private final UpOneSide x;
  private final List<Long> told = new ArrayList<>();

  private Twin(List<Call> calls) {
    x = Call.replayed(calls);
  }

  /** If the objects that these calls leave can be told apart, but by status(): by which part; or -1. */
  static int differs(List<Call> calls, List<Call> others) {
    for (int part = 0; part < PARTS; part++) {
      if (!told(calls, part).equals(told(others, part))) {
        return part;
      }
    }
    return -1;
  }

  static boolean fits(List<Call> calls) {
    return calls.size() + PART_CALLS <= MOST_CALLS;
  }

  /** What status() tells behind these calls: of each finding, then of all. */
  static List<Long> status(List<Call> calls) {
    Twin twin = new Twin(calls);
    for (int which = 0; which < 7; which++) {
      twin.tell("status", which);
    }
    twin.tell("status", -1);
    return twin.told;
  }

  private static List<Long> told(List<Call> calls, int part) {
    Twin twin = new Twin(calls);
    twin.tellPart(part);
    return twin.told;
  }

  private void tellPart(int part) {
    switch (part) {
      case 0 -> tellRoom();
      case 1 -> tellWear();
      case 2 -> tellSun();
      case 3 -> tellSearch();
      case 4, 5, 6, 7 -> tellSheet(part - 4);
      case 8 -> {
        tell("text");
        tellRoom();
      }
      case 9 -> {
        // What stands at the tape's end is read behind a fault only as far as this.
        tell("feed", ';' << 24 | 'u' << 16 | 'p' << 8 | '7', 4);
        tell("text");
      }
      case 10 -> tell("tear");
      case 11 -> {
        tell("undo");
        tellRoom();
      }
      case 12 -> {
        tell("undo");
        tellWear();
      }
      default -> {
        tell("undo");
        tellSun();
      }
    }
  }

  private long tell(String act, int... args) {
    long answer = new Call(act, args).on(x);
    told.add(answer);
    return answer;
  }

  private void tellRoom() {
    for (int what = 0; what < 8; what++) {
      tell("count", what);
    }
    for (int pull = 0; pull < 8; pull++) {
      for (int what = 0; what < 3; what++) {
        tell("of", pull, what);
      }
    }
    for (int what = 0; what < 6; what++) {
      tell("ruled", what);
    }
    for (int mend = 0; mend < 4; mend++) {
      tell("price", mend, 0);
    }
    for (int spot = 0; spot < 10; spot++) {
      tell("as", spot, 0);
    }
  }

  private void tellWear() {
    for (int at = 0; at <= 60; at++) {
      tell("wear", at);
    }
  }

  private void tellSun() {
    for (int hour = 0; hour < 24; hour++) {
      tell("hour", hour, 0);
    }
  }

  private void tellSearch() {
    tell("states");
    tell("worst");
    for (int h = 0; h <= 60; h += 20) {
      tell("fewest", h);
      tell("first", h);
    }
  }

  /** How many numbers it has and which, as far as they are 0 to 60, and of how many bits. */
  private void tellSheet(int s) {
    int size = 0;
    while (size <= 40 && tell("copy", s, size, s, size, 1) == 1) {
      size++;
    }
    for (int left = size; left > 0;) {
      int came = Math.min(left, (int) tell("load", s));
      for (int hour = 0; hour < came; hour++) {
        tell("hour", hour, 0);
      }
      // The number at which it ended is passed over.
      int gone = Math.min(left, came == 24 ? came : came + 1);
      left -= gone;
      tell("copy", s, gone, s, 0, left);
    }
    int other = (s + 1) % 4;
    for (int bits = 8; bits <= 32; bits *= 2) {
      tell("sheet", other, bits, 0);
      tell("copy", s, 0, other, 0, 0);
    }
  }
}
