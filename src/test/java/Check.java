/** Counts answers that are not as due, and tells texts to an object. */
final class Check {
  static final int BEYOND = -1000001;
  static final int FULL = -1000002;
  static final int KIND = -1000003;
  static final int NONE = -1000004;
  static final int STATE = -1000005;
  static final int MISSING = -1000006;
  static final int SIZE = -1000007;

  private static int asked = 0;
  private static int wrong = 0;

  private Check() {}

  static void due(String call, long got, long want) {
    asked++;
    if (got != want) {
      wrong++;
      System.out.println(call + " answered " + got + ", due is " + want);
    }
  }

  /** The text is fed in fours, as far as it goes, and read. */
  static int tell(UpOneSide x, String text) {
    feed(x, text);
    return x.text();
  }

  static void feed(UpOneSide x, String text) {
    for (int at = 0; at < text.length(); at += 4) {
      String part = text.substring(at, Math.min(text.length(), at + 4));
      int bytes = 0;
      for (char sign : part.toCharArray()) {
        bytes = bytes << 8 | sign;
      }
      x.feed(bytes, part.length());
    }
  }

  static UpOneSide told(String text) {
    UpOneSide x = new UpOneSide();
    if (tell(x, text) < 0) {
      throw new IllegalArgumentException(text);
    }
    return x;
  }

  static void end() {
    System.out.println(asked + " answers, " + wrong + " not as due");
    if (wrong != 0 || asked == 0) {
      System.exit(1);
    }
  }
}
