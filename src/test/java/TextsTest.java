/** Promises 37 to 51: texts, spots, sheets, images, counts. */
public final class TextsTest {
  private static void due(String call, long got, long want) {
    Check.due(call, got, want);
  }

  private static void promise37And38Tape() {
    UpOneSide x = new UpOneSide();
    due("37 n 0", x.feed(0, 0), Check.BEYOND);
    due("37 n 5", x.feed(0, 5), Check.BEYOND);
    due("38 empty", x.wipe(), 0);
    due("37 one", x.feed(0x12345675, 1), 1);
    due("37 two", x.feed(0x12347020, 2), 3);
    due("37 count", x.count(5), 3);
    due("37 three", x.feed(0x7f342035, 3), 6);
    due("37 four", x.feed(0x20202020, 4), 10);
    // Fed were: up 4 5, and four blanks.
    due("37 the highest first", x.text(), 1);
    due("37 the left", x.now(0), 4);
    due("37 the right", x.now(1), 5);
    for (int i = 1; i <= 29; i++) {
      due("37 fours", x.feed(0x20202020, 4), 4 * i);
    }
    due("37 three more", x.feed(0x202020, 3), 119);
    due("37 two would be too many", x.feed(0x2020, 2), Check.FULL);
    due("37 and no n", x.feed(0, 5), Check.BEYOND);
    due("37 not a part of them", x.count(5), 119);
    due("37 the last", x.feed(0x20, 1), 120);
    due("37 full", x.feed(0x20, 1), Check.FULL);
    due("38 had", x.wipe(), 120);
    due("38 empty again", x.count(5), 0);
    due("38 none", x.wipe(), 0);
    Check.feed(x, "up 7 5");
    x.wipe();
    Check.feed(x, "up 9 8");
    due("38 not read", x.text(), 1);
    due("38 the later", x.now(0), 9);
  }

  private static void text(String text, int answer) {
    UpOneSide x = new UpOneSide();
    due("39 " + text, Check.tell(x, text), answer);
    due("39 tape is empty behind " + text, x.count(5), 0);
    due("39 no finding by " + text, x.status(-1), 0);
  }

  private static void promise39Told() {
    UpOneSide x = new UpOneSide();
    String pulls = "even ;slanting by 30 lean-9;slipping lean 9;fanned by-30;caught by 0;jammed by - 7 lean - 0;pull";
    due("39 pulls", Check.tell(x, pulls), 7);
    int[][] told = {{1, 5, 0}, {2, 30, -9}, {3, 5, 9}, {4, -30, 0}, {5, 0, 0}, {6, -7, 0}, {0, 5, 0}};
    for (int pull = 0; pull < told.length; pull++) {
      for (int what = 0; what < 3; what++) {
        due("39 of " + pull + " " + what, x.of(pull, what), told[pull][what]);
      }
    }
    due("39 seven", x.count(1), 7);
    String rules = "  knot-9;slip9 ; wind 9;curtain 59;chair 60;sun 23 60;sun 0 007;up 60 1 ";
    due("39 rules", Check.tell(x, rules), 8);
    int[] ruled = {-9, 9, 9, 59, 1, 60};
    for (int what = 0; what < ruled.length; what++) {
      due("39 ruled " + what, x.ruled(what), ruled[what]);
    }
    due("39 hour 23", x.hour(23, 0), 60);
    due("39 hour 0", x.hour(0, 0), 7);
    due("39 up", x.now(2), 59);
    due("39 item by item", Check.tell(x, "up 1 2;up 3 4;knot 9;pull"), 4);
    due("39 the latest", x.now(0) * 100 + x.now(1), 304);
    due("39 the knot", x.ruled(0), 9);
    due("39 the eighth", x.count(1), 8);
    due("39 a ninth", Check.tell(x, "up 9 9 ; pull"), -10);
    due("39 nothing of it", x.now(0), 3);
    due("39 none done", x.count(3), 0);
    due("39 edges", Check.tell(x, "knot 0;slip 0;wind 0;curtain 0;chair 0;sun 0 0;up 0 0"), 7);
    due("39 of edges", x.ruled(0) + x.ruled(1) + x.ruled(2) + x.ruled(3) + x.ruled(5) + x.hour(0, 0) + x.now(0), 0);
    x.up(5, 6);
    x.rule(4, 77);
    due("39 all else", Check.tell(x, "knot 1"), 1);
    due("39 stays", x.now(0) * 10000 + x.now(1) * 100 + x.ruled(4), 50677);
    Check.feed(x, "up 0 0     ");
    x.wipe();
    due("39 what the tape had ahead", Check.tell(x, "up 0"), -5);
    due("39 a number of many digits", Check.tell(x, "up 000000000000000000060 00000000000000000009"), 1);
    due("39 is that number", x.now(2), 51);
  }

  private static void promise39Faults() {
    text("", -1);
    text("   ", -4);
    text("pull by 31", -9);
    text("pull by -31", -10);
    text("pull by - ", -11);
    text("pull by", -8);
    text("pull lean", -10);
    text("pull by --1", -10);
    text("pull lean 10", -11);
    text("pull lean -10", -12);
    text("pull lean 1 by 3", -13);
    text("pull by 1 by 3", -11);
    text("pull 3", -6);
    text("pull -3", -6);
    text("pull by lean", -9);
    text("pull;", -6);
    text("pull; ", -7);
    text(";pull", -1);
    text("pull;;pull", -6);
    text("pull pull", -6);
    text("pull,", -5);
    text("pulls", -1);
    text("pul", -1);
    text("Pull", -1);
    text("pulL", -1);
    text("pullL", -5);
    text("by 3", -1);
    text("lean 3", -1);
    text("break 3", -1);
    text("3", -1);
    text("-", -1);
    text("knot", -5);
    text("knot 10", -6);
    text("knot -10", -7);
    text("knot - -1", -8);
    text("knot ;", -6);
    text("slip -1", -6);
    text("slip 10", -6);
    text("wind 10", -6);
    text("wind -1", -6);
    text("curtain 61", -9);
    text("curtain -0", -9);
    text("chair 61", -7);
    text("sun 24 0", -5);
    text("sun 0 61", -7);
    text("sun 0", -6);
    text("sun 0;", -6);
    text("sun -1 0", -5);
    text("up 61 0", -4);
    text("up 0 61", -6);
    text("up 0 -1", -6);
    text("up 0", -5);
    text("up 0 0 0", -8);
    text("up 0 0;", -8);
    text("up 0 0 up 0 0", -8);
    text("up 99999999999999999999 0", -4);
    text("up 0 4294967296", -6);
    text("up 0 1000", -6);
    text("up\t0 0", -3);
    text("up 0 0" + (char) 233, -7);
    text("up 0 0;up 1 61", -13);
    text("even;even;even;even;even;even;even;even;even", -41);
    text("even;even;even;even;even;even;even;even;evens", -41);
    text("even;even;even;even;even;even;even;even;up 9", -45);
    text("even;even;even;even;even;even;even;even", 8);
    text("knot ,5", -6);
    text("pull by .5", -9);
    text("mull", -1);
    text("gnot 3", -1);
    text("pullz", -1);
    text("apull", -1);
    text("za", -1);
    text("up 4 4" + " ".repeat(114), 1);
    text("up 4 " + " ".repeat(115), -121);
    UpOneSide x = new UpOneSide();
    Check.tell(x, "pull by 9;knot 3;slip 4;sun 3 9;up 3 4;sun 4 70");
    due("39 no pull with a fault", x.count(1), 0);
    due("39 no rule with a fault", x.ruled(0) * 10 + x.ruled(1), 1);
    due("39 no sun with a fault", x.hour(3, 0), 0);
    due("39 not up with a fault", x.now(0) + x.now(1), 0);
  }

  private static void promise40And41Spots() {
    UpOneSide x = Check.told("pull;even;slanting;slipping;fanned;caught;jammed");
    // Of each kind what it is one of, as bits.
    int[] under = {1, 3, 5, 13, 29, 33, 97};
    for (int spot = 0; spot < 7; spot++) {
      due("40 hold " + spot, x.hold(spot, spot), 1);
      for (int kind = 0; kind < 7; kind++) {
        boolean is = (under[spot] >> kind & 1) != 0;
        due("41 " + spot + " as " + kind, x.as(spot, kind), is ? spot : Check.KIND);
      }
    }
    due("40 seven held", x.count(7), 7);
    due("41 nothing", x.as(7, 0), Check.MISSING);
    due("40 the last spot", x.hold(9, 6), 1);
    due("41 the last spot", x.as(9, 5), 6);
    due("40 another", x.hold(9, 0), 1);
    due("41 another", x.as(9, 0), 0);
    due("40 nothing", x.hold(9, -1), 1);
    due("41 nothing then", x.as(9, 0), Check.MISSING);
    x.change(4, 0, 1);
    due("41 as it is now", x.as(4, 1), 4);
    due("41 no more", x.as(4, 2), Check.KIND);
    int[][] beyond = {{10, 0}, {-1, 0}, {0, 7}, {0, -2}};
    for (int[] of : beyond) {
      due("40 beyond", x.hold(of[0], of[1]), Check.BEYOND);
    }
    int[][] noKind = {{10, 0}, {-1, 0}, {0, 7}, {0, -1}, {9, 7}};
    for (int[] of : noKind) {
      due("41 beyond", x.as(of[0], of[1]), Check.BEYOND);
    }
    due("41 the first stays", x.as(0, 0), 0);
  }

  private static void promise42Sheet() {
    UpOneSide x = new UpOneSide();
    due("42 eight", x.sheet(0, 8, 40), 40);
    due("42 sixteen", x.sheet(3, 16, 1), 1);
    due("42 thirty-two", x.sheet(2, 32, 0), 0);
    due("42 none", x.write(2, 0, 0), Check.BEYOND);
    due("42 missing", x.sheet(0, 0, 40), 0);
    due("42 is missing", x.write(0, 0, 0), Check.MISSING);
    due("42 below", x.sheet(-1, 8, 0), Check.BEYOND);
    due("42 above", x.sheet(4, 8, -1), Check.BEYOND);
    due("42 bits", x.sheet(0, 4, -1), Check.BEYOND);
    due("42 more bits", x.sheet(0, 64, 0), Check.BEYOND);
    due("42 size", x.sheet(0, 8, -1), Check.SIZE);
    due("42 size of a missing one", x.sheet(3, 0, -1), Check.SIZE);
    due("42 too many", x.sheet(0, 8, 41), Check.BEYOND);
    due("42 too many of a missing one", x.sheet(3, 0, 41), Check.BEYOND);
    due("42 still there", x.write(3, 0, 59), 1);
    due("42 anew", x.sheet(3, 16, 2), 2);
    due("42 all 0", x.load(3), 2);
    due("42 is 0", x.hour(0, 0), 0);
  }

  private static void promise43Write() {
    UpOneSide x = new UpOneSide();
    x.sheet(0, 8, 2);
    x.sheet(1, 16, 1);
    x.sheet(2, 32, 1);
    due("43 first", x.write(0, 0, 256 + 17), 1);
    due("43 last", x.write(0, 1, 60), 1);
    due("43 load", x.load(0), 2);
    due("43 lowest bits", x.hour(0, 0), 17);
    due("43 as it is", x.hour(1, 0), 60);
    x.write(0, 1, 0x3c80);
    due("43 with its sign", x.load(0), 1);
    x.write(1, 0, 65536 + 18);
    x.load(1);
    due("43 lowest sixteen", x.hour(0, 0), 18);
    x.write(1, 0, 0x8000);
    due("43 sixteen with their sign", x.load(1), 0);
    x.write(1, 0, 128);
    due("43 sixteen are more than eight", x.load(1), 0);
    x.write(2, 0, 65536);
    due("43 all bits", x.load(2), 0);
    x.write(2, 0, 60);
    due("43 all bits of 60", x.load(2), 1);
    due("43 no number", x.write(0, 2, 0), Check.BEYOND);
    due("43 number below", x.write(0, -1, 0), Check.BEYOND);
    due("43 missing", x.write(3, -1, 0), Check.MISSING);
    due("43 no sheet", x.write(4, 0, 0), Check.BEYOND);
    due("43 sheet below", x.write(-1, 0, 0), Check.BEYOND);
  }

  /** The numbers of a sheet are read back as heights. */
  private static void holds(String what, UpOneSide x, int s, int... heights) {
    due(what + ": many", x.load(s), heights.length);
    for (int i = 0; i < heights.length; i++) {
      due(what + ": " + i, x.hour(i, 0), heights[i]);
    }
  }

  private static void fill(UpOneSide x, int s, int bits, int... numbers) {
    x.sheet(s, bits, numbers.length);
    for (int i = 0; i < numbers.length; i++) {
      x.write(s, i, numbers[i]);
    }
  }

  private static void promise44Copy() {
    UpOneSide x = new UpOneSide();
    fill(x, 0, 8, 1, 2, 3, 4, 5);
    fill(x, 1, 8, 11, 12, 13);
    fill(x, 2, 16, 7);
    due("44 two", x.copy(0, 3, 1, 1, 2), 2);
    holds("44 two", x, 1, 11, 4, 5);
    due("44 onto itself", x.copy(0, 0, 0, 1, 4), 4);
    holds("44 as they all were", x, 0, 1, 1, 2, 3, 4);
    due("44 back", x.copy(0, 2, 0, 0, 3), 3);
    holds("44 as they all were again", x, 0, 2, 3, 4, 3, 4);
    due("44 none", x.copy(0, 5, 1, 3, 0), 0);
    due("44 all", x.copy(1, 0, 1, 0, 3), 3);
    due("44 no sheet", x.copy(4, 0, 0, 0, 1), Check.BEYOND);
    due("44 sheet below", x.copy(-1, 0, 0, 0, 1), Check.BEYOND);
    due("44 to no sheet", x.copy(3, 0, 4, 0, 1), Check.BEYOND);
    due("44 to a sheet below", x.copy(3, 0, -1, 0, 1), Check.BEYOND);
    due("44 missing", x.copy(3, -1, 0, 0, 1), Check.MISSING);
    due("44 to a missing one", x.copy(0, -1, 3, 0, 1), Check.MISSING);
    due("44 kind", x.copy(0, -1, 2, 0, 1), Check.KIND);
    int[][] beyond = {{0, -1, 1, 0, 1}, {0, 0, 1, -1, 1}, {0, 0, 1, 0, -1}, {0, 0, 1, 0, 4}, {1, 0, 0, 0, 4},
        {0, 5, 1, 0, 1}, {0, 0, 1, 3, 1}, {0, 1, 1, 0, Integer.MAX_VALUE}, {0, Integer.MAX_VALUE, 1, 0, 1},
        {0, 0, 1, Integer.MAX_VALUE, 1}, {0, 6, 1, 0, 0}, {0, Integer.MIN_VALUE, 1, 0, Integer.MIN_VALUE}};
    for (int[] of : beyond) {
      due("44 beyond", x.copy(of[0], of[1], of[2], of[3], of[4]), Check.BEYOND);
    }
    holds("44 nothing of these", x, 1, 11, 4, 5);
  }

  private static void promise45Load() {
    UpOneSide x = new UpOneSide();
    due("45 missing", x.load(0), Check.MISSING);
    due("45 no sheet", x.load(4), Check.BEYOND);
    due("45 sheet below", x.load(-1), Check.BEYOND);
    fill(x, 0, 16, 60, 0, 61, 5);
    x.sun(2, 33);
    x.sun(3, 34);
    due("45 until above", x.load(0), 2);
    due("45 first", x.hour(0, 0), 60);
    due("45 where it ends", x.hour(2, 0), 33);
    due("45 behind", x.hour(3, 0), 34);
    fill(x, 0, 16, -1, 5);
    due("45 until below", x.load(0), 0);
    x.sheet(0, 32, 40);
    for (int i = 0; i < 40; i++) {
      x.write(0, i, i);
    }
    due("45 no more hours", x.load(0), 24);
    due("45 last hour", x.hour(23, 0), 23);
    x.sheet(0, 8, 0);
    due("45 none", x.load(0), 0);
  }

  private static void promise46Judge() {
    UpOneSide x = Check.told("pull;slanting by -2 lean -9;up 2 9");
    due("46 missing", x.judge(0), Check.MISSING);
    due("46 no sheet", x.judge(4), Check.BEYOND);
    due("46 sheet below", x.judge(-1), Check.BEYOND);
    x.sheet(0, 8, 0);
    due("46 now", x.judge(0), 7);
    // (2,9) (7,13) (0,19) (5,23) (10,27)
    fill(x, 0, 8, 0, 1, 0, 0);
    due("46 on the way", x.judge(0), 19);
    fill(x, 0, 8, 0, 0);
    due("46 now is most", x.judge(0), 7);
    fill(x, 0, 8, 0, 1);
    due("46 at last", x.judge(0), 19);
    fill(x, 0, 8, 0, 1, 2);
    due("46 no pull", x.judge(0), Check.STATE);
    fill(x, 0, 8, -1, 0);
    due("46 pull below", x.judge(0), Check.STATE);
    UpOneSide y = Check.told("pull by 1");
    y.sheet(0, 8, 0);
    due("46 none", y.judge(0), 0);
    y.sheet(0, 8, 40);
    due("46 forty", y.judge(0), 40);
    y.sheet(0, 8, 39);
    due("46 thirty-nine", y.judge(0), 39);
    due("46 nothing is done", x.now(3) + x.count(4), 0);
    due("46 nothing changes", x.now(0) * 100 + x.now(1), 209);
  }

  private static UpOneSide full() {
    UpOneSide x = Check.told("pull by 9 lean 3;knot 1;slip 2;wind 3;curtain 40;chair 30;sun 5 50;up 7 6");
    x.rule(4, 44);
    x.price(3, 55);
    x.hold(2, 0);
    x.does(0);
    x.seed(77);
    return x;
  }

  private static long[] all(UpOneSide x) {
    return new long[] {x.of(0, 0), x.of(0, 1), x.of(0, 2), x.ruled(0), x.ruled(1), x.ruled(2), x.ruled(3), x.ruled(4),
        x.ruled(5), x.hour(5, 0), x.count(0), x.count(1), x.count(2), x.count(3), x.count(4), x.count(6), x.count(7),
        x.as(2, 0), x.wear(7), x.wear(0), x.costs(0, 20, 0)};
  }

  private static void promise47To49Image() {
    UpOneSide x = full();
    long[] before = all(x);
    due("48 nothing kept", x.undo(), Check.NONE);
    due("49 nothing kept", x.tear(), 0);
    Check.feed(x, "pull");
    x.sheet(1, 8, 1);
    due("47 image", x.image(), 1);
    Check.feed(x, ";caught;up 3 3;knot 7;slip 8;wind 9;curtain 1;chair 2;sun 5 1");
    due("47 told", x.text(), 9);
    x.rule(4, 3);
    for (int mend = 0; mend < 4; mend++) {
      x.price(mend, 98);
    }
    for (int what = 0; what < 3; what++) {
      x.change(0, what, 4);
    }
    x.hold(2, -1);
    x.hold(3, 1);
    x.hands(7);
    x.cord();
    x.sheet(1, 8, 2);
    x.feed(0, 3);
    int findings = x.status(-1);
    due("48 undo", x.undo(), (int) before[10]);
    due("48 status stays", x.status(-1), findings);
    long[] behind = all(x);
    for (int i = 0; i < before.length; i++) {
      due("48 all: " + i, behind[i], before[i]);
    }
    due("48 prices", x.price(0, 1) * 1000 + x.price(1, 4) * 100 + x.price(2, 30) + x.price(3, 2), 1000 + 400 + 30 + 55);
    due("48 the tape stays", x.count(5), 3);
    due("48 sheets stay", x.write(1, 1, 0), 1);
    due("48 a spot", x.as(3, 0), Check.MISSING);
    x.up(1, 1);
    due("48 it stays", x.undo(), (int) before[10]);
    x.up(33, 1);
    x.image();
    x.up(1, 1);
    due("48 the latest", x.undo(), 33);
    due("49 tear", x.tear(), 1);
    due("49 again", x.tear(), 0);
    due("48 torn", x.undo(), Check.NONE);
    due("48 as it was", x.now(0), 33);
    x.image();
    due("47 after tearing", x.undo(), 33);
  }

  private static void promise50Count() {
    UpOneSide x = Check.told("pull;even;up 8 3");
    x.does(0);
    x.does(0);
    x.up(8, 3);
    x.does(0);
    x.up(9, 4);
    x.feed(0, 3);
    x.seed(-5);
    x.hold(1, 1);
    x.hold(8, 1);
    int[] counts = {9, 2, 4, 3, 3, 3, -5, 2};
    for (int what = 0; what < counts.length; what++) {
      due("50 count " + what, x.count(what), counts[what]);
    }
    due("50 above", x.count(8), Check.BEYOND);
    due("50 below", x.count(-1), Check.BEYOND);
  }

  private static void promise51Status() {
    UpOneSide x = new UpOneSide();
    x.as(0, 0);
    x.undo();
    x.undo();
    x.hands(1);
    x.hands(1);
    x.hands(1);
    x.sheet(0, 8, -1);
    x.sheet(0, 8, -1);
    x.sheet(0, 8, -1);
    x.sheet(0, 8, -1);
    x.sheet(0, 8, 1);
    x.sheet(1, 16, 1);
    for (int i = 0; i < 5; i++) {
      x.copy(0, 0, 1, 0, 1);
    }
    for (int i = 0; i < 9; i++) {
      x.pull(0);
    }
    x.lasts(0, 9, 0);
    int[] found = {1, 1, 5, 2, 3, 1, 4};
    for (int which = 0; which < found.length; which++) {
      due("51 status " + which, x.status(which), found[which]);
    }
    due("51 all", x.status(-1), 17);
    due("51 above", x.status(7), Check.BEYOND);
    due("51 below", x.status(-2), Check.BEYOND);
    due("51 these too", x.status(0), 3);
    due("51 all with these", x.status(-1), 19);
    x.image();
    x.pull(9);
    x.undo();
    due("51 undo takes none back", x.status(0), 4);
  }

  public static void main(String[] args) {
    promise37And38Tape();
    promise39Told();
    promise39Faults();
    promise40And41Spots();
    promise42Sheet();
    promise43Write();
    promise44Copy();
    promise45Load();
    promise46Judge();
    promise47To49Image();
    promise50Count();
    promise51Status();
    Check.end();
  }
}
