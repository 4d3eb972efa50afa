/** Promises 19 to 36: fewest pulls, mends, sun, breaking, told heights, draws. */
public final class SearchTest {
  private static void due(String call, long got, long want) {
    Check.due(call, got, want);
  }

  /** Pull 0 lifts 5 and 4, pull 1 lifts 4 and 5. */
  private static UpOneSide withTwo() {
    return Check.told("pull;slanting lean -1");
  }

  private static void promise19And20Fewest() {
    UpOneSide x = withTwo();
    due("19 already", x.fewest(0), 0);
    due("20 already", x.first(0), Check.NONE);
    due("19 two", x.fewest(1), 2);
    due("19 two for nine", x.fewest(9), 2);
    due("20 two for nine", x.first(9), 0);
    due("19 four for ten", x.fewest(10), 4);
    due("20 four for ten", x.first(10), 0);
    due("19 top", x.fewest(60), 14);
    due("20 top", x.first(60), 0);
    due("19 above", x.fewest(61), Check.BEYOND);
    due("19 below", x.fewest(-1), Check.BEYOND);
    due("20 above", x.first(61), Check.BEYOND);
    due("20 below", x.first(-1), Check.BEYOND);
    x.up(5, 4);
    due("19 one", x.fewest(0), 1);
    due("20 the other", x.first(0), 1);
    due("19 one for nine", x.fewest(9), 1);
    due("19 three for ten", x.fewest(10), 3);
    due("20 three for ten, the least row", x.first(10), 0);
    x.up(0, 30);
    due("19 by the ends", x.fewest(30), 12);
    due("19 nothing changes", x.now(1) + x.now(3), 30);
    UpOneSide y = Check.told("pull by 0;pull by 30;pull by 30");
    // (30,29) (60,58) (60,60)
    due("19 by the top", y.fewest(1), 3);
    due("20 by the top", y.first(1), 1);
    y.rule(1, 0);
    due("19 by one then", y.fewest(1), 1);
    due("20 the least of two", y.first(1), 1);
    due("19 twice", y.fewest(31), 2);
    y.up(0, 1);
    due("19 thrice", y.fewest(0), 2);
    UpOneSide none = new UpOneSide();
    due("19 no pulls", none.fewest(1), Check.NONE);
    due("20 no pulls", none.first(1), Check.NONE);
    none.up(20, 20);
    due("19 no pulls but so", none.fewest(20), 0);
    due("20 no pulls but so", none.first(20), Check.NONE);
  }

  private static void promise20Alone() {
    UpOneSide x = withTwo();
    x.up(5, 4);
    due("20 asked ahead of all", x.first(0), 1);
    x.up(4, 5);
    due("20 asked again", x.first(0), 0);
    UpOneSide none = new UpOneSide();
    none.up(3, 50);
    due("19 never level", none.fewest(0), Check.NONE);
    due("20 never level", none.first(0), Check.NONE);
  }

  private static void promise20LeastRow() {
    // Behind one pull each: (10,20), (20,10), (11,10); level by the row 1 2 and by 0 3 alone.
    UpOneSide x = Check.told("slip 0;slanting by 15 lean -5;slanting by 15 lean 5;pull by 3;slanting by 0 lean 9");
    due("20 as many", x.fewest(1), 1);
    due("20 the third", x.first(1), 2);
    due("20 farther", x.fewest(4), 2);
    due("20 by 0 1 ahead of 2 2", x.first(4), 0);
  }

  private static void promise21And22States() {
    UpOneSide x = Check.told("pull");
    due("21 on and on", x.states(), 16);
    due("22 on and on", x.worst(), 12);
    x.rule(1, 0);
    x.change(0, 1, 30);
    due("21 three", x.states(), 3);
    due("22 level", x.worst(), 0);
    x.up(0, 7);
    due("21 again", x.states(), 3);
    due("22 that of now", x.worst(), 7);
    x.up(9, 9);
    due("21 nine", x.states(), 3);
    x.rule(2, 9);
    // (9,9) (39,39) (60,60)
    due("21 wind", x.states(), 3);
    x.rule(0, -9);
    // (9,9) (39,39) (60,60) (60,60), with 9 less on the right each from 30.
    due("22 knot", x.worst(), 0);
    x.change(0, 1, 5);
    // (9,9) (14,14) (21,19) (30,24) (41,29) (55,34) (60,30) (60,26) (60,31) (60,27) .. (60,34) (60,30)
    due("22 to and fro", x.worst(), 34);
    UpOneSide none = new UpOneSide();
    due("21 no pulls", none.states(), 1);
    none.up(3, 50);
    due("22 no pulls", none.worst(), 47);
    UpOneSide all = Check.told("slanting by 1 lean 1;slanting by -1 lean -1;slanting by 1 lean -1;slip 0;slanting by -1 lean 1");
    all.up(1, 1);
    // Up and down by 2 on one side alone: odd ones, and by the ends even ones.
    due("21 all", all.states(), 61 * 61);
    due("22 all", all.worst(), 60);
  }

  private static void searchFollowsChanges() {
    UpOneSide x = Check.told("pull");
    due("21 first", x.states(), 16);
    x.change(0, 1, 30);
    due("21 behind change of by", x.states(), 4);
    x.change(0, 0, 2);
    x.change(0, 2, 9);
    // (39,20) (60,40) (60,60)
    due("21 behind change of lean", x.states(), 4);
    due("22 behind change of lean", x.worst(), 20);
    x.change(0, 0, 4);
    // (60,19) (60,38) (60,57) (60,60)
    due("21 behind change of kind", x.states(), 5);
    x.rule(1, 9);
    // (60,3) by threes
    due("21 behind rule 1", x.states(), 21);
    UpOneSide w = Check.told("pull by 30;slip 0");
    due("21 ahead of rule 0", w.states(), 3);
    w.rule(0, -9);
    // (30,30) (60,51) (60,60)
    due("21 behind rule 0", w.states(), 4);
    w.up(0, 10);
    // (30,40) (60,60)
    due("21 behind up", w.states(), 3);
    UpOneSide v = Check.told("pull by 30;slip 0");
    due("21 ahead of another pull", v.states(), 3);
    v.pull(0);
    v.change(1, 1, 20);
    // 0 20 30 40 50 60 on both sides
    due("21 behind another pull", v.states(), 6);
    UpOneSide y = Check.told("caught");
    due("22 caught no more", y.worst(), 12);
    y.rule(3, 0);
    due("22 caught", y.worst(), 60);
    y.image();
    y.change(0, 0, 0);
    due("22 free", y.worst(), 12);
    y.undo();
    due("22 caught behind undo", y.worst(), 60);
    UpOneSide all = Check.told("caught by 30");
    due("21 ahead of all rules", all.states(), 4);
    all.mended(1);
    all.rule(0, 9);
    all.rule(2, 9);
    all.rule(3, 0);
    // (0,30) (0,60)
    due("21 behind all rules", all.states(), 3);
    UpOneSide u = new UpOneSide();
    u.image();
    u.pull(0);
    due("21 ahead of undo", u.states(), 16);
    u.undo();
    due("21 behind undo to no pulls", u.states(), 1);
    y.rule(2, 9);
    y.rule(3, 60);
    y.up(10, 0);
    // (17,4) (24,8) (33,12) (44,16) (58,20) (60,24)
    due("22 wind", y.worst(), 38);
    y.rule(2, 0);
    // (15,4) .. (60,40)
    due("22 no wind", y.worst(), 20);
    y.up(10, 10);
    due("22 both up", y.worst(), 10);
    y.does(0);
    due("21 behind a pull", y.states(), 13);
  }

  private static void promise23And24Mends() {
    UpOneSide x = Check.told("pull;slanting lean 1;caught");
    due("23 none is needed", x.mends(0, 6, 6), 0);
    due("24 none is needed", x.costs(0, 6, 6), 0);
    due("23 clip", x.mends(0, 6, 5), 1);
    due("24 clip", x.costs(0, 6, 5), 1);
    due("23 none does", x.mends(1, 6, 11), Check.NONE);
    due("24 none does", x.costs(1, 6, 11), Check.NONE);
    due("23 clip does", x.mends(1, 6, 12), 1);
    x.rule(3, 0);
    due("23 curtain", x.mends(2, 1, 1), 8);
    due("24 curtain", x.costs(2, 1, 1), 2);
    due("23 clip and curtain", x.mends(2, 1, 0), 9);
    due("24 clip and curtain", x.costs(2, 1, 0), 3);
    x.rule(3, 60);
    x.rule(0, -1);
    x.up(40, 40);
    due("23 clip for untied", x.mends(0, 1, 1), 1);
    x.price(0, 4);
    due("23 the least of two", x.mends(0, 1, 1), 1);
    x.price(0, 9);
    due("23 untied", x.mends(0, 1, 1), 2);
    due("24 untied", x.costs(0, 1, 1), 4);
    due("23 both", x.mends(0, 1, 0), 3);
    due("24 both", x.costs(0, 1, 0), 13);
    x.rule(0, 0);
    x.rule(1, 0);
    x.rule(2, 4);
    due("23 roller", x.mends(0, 1, 0), 4);
    due("24 roller", x.costs(0, 1, 0), 30);
    x.price(2, 0);
    due("23 for nothing", x.mends(0, 1, 0), 4);
    due("24 for nothing", x.costs(0, 1, 0), 0);
    due("23 nothing at all", x.mends(0, 1, 4), 0);
    due("23 rules stay", x.ruled(2), 4);
    int[][] beyond = {{3, 0, 0}, {-1, 0, 0}, {0, 21, 0}, {0, -1, 0}, {0, 0, 61}, {0, 0, -1}};
    for (int[] of : beyond) {
      due("23 beyond", x.mends(of[0], of[1], of[2]), Check.BEYOND);
      due("24 beyond", x.costs(of[0], of[1], of[2]), Check.BEYOND);
    }
    due("23 edges", x.mends(0, 20, 60), 0);
    due("23 never pulled", x.mends(0, 0, 0), 0);
    due("24 never pulled", x.costs(0, 0, 0), 0);
    x.up(9, 8);
    due("23 off and never pulled", x.mends(0, 0, 0), Check.NONE);
    due("24 off and never pulled", x.costs(0, 0, 0), Check.NONE);
  }

  private static void promise25Mended() {
    int[] mended = {0, 1, 0, 60};
    int[] first = {-7, 3, 8, 9};
    int[] costs = {0, 1, 4, 5, 30, 31, 34, 35, 2, 3, 6, 7, 32, 33, 36, 37};
    for (int set = 0; set < 16; set++) {
      UpOneSide x = new UpOneSide();
      for (int rule = 0; rule < 4; rule++) {
        x.rule(rule, first[rule]);
      }
      due("25 set " + set, x.mended(set), costs[set]);
      due("25 slip by " + set, x.ruled(1), (set & 1) != 0 ? 0 : 3);
      due("25 knot by " + set, x.ruled(0), (set & 2) != 0 ? 0 : -7);
      due("25 wind by " + set, x.ruled(2), (set & 4) != 0 ? 0 : 8);
      due("25 curtain by " + set, x.ruled(3), (set & 8) != 0 ? 60 : 9);
      due("25 break by " + set, x.ruled(4), mended[1]);
    }
    UpOneSide x = new UpOneSide();
    due("25 above", x.mended(16), Check.BEYOND);
    due("25 below", x.mended(-1), Check.BEYOND);
    x.price(1, 50);
    due("25 by its price", x.mended(3), 51);
  }

  private static void promise26To28Sun() {
    UpOneSide x = new UpOneSide();
    due("26 most", x.sun(0, 60), 0);
    due("26 as it was", x.sun(0, 25), 60);
    due("26 least", x.sun(0, 0), 25);
    due("26 from the least", x.sun(0, 25), 0);
    due("26 last", x.sun(23, 20), 0);
    due("26 above", x.sun(0, 61), Check.BEYOND);
    due("26 below", x.sun(0, -1), Check.BEYOND);
    due("26 hour", x.sun(24, 0), Check.BEYOND);
    due("26 hour below", x.sun(-1, 0), Check.BEYOND);
    x.sun(5, 19);
    x.up(30, 26);
    due("27 height", x.hour(0, 0), 25);
    due("27 eyes", x.hour(0, 1), 1);
    due("27 light", x.hour(0, 2), 6);
    due("27 at the chair", x.hour(23, 1), 1);
    due("27 below the chair", x.hour(5, 1), 0);
    due("27 light below the chair", x.hour(5, 2), 18);
    due("28 of two", x.eyes(), 1 << 23 | 1);
    x.up(60, 25);
    due("27 as high is not more", x.hour(0, 1), 0);
    due("27 light on the left alone", x.hour(0, 2), 35);
    x.up(25, 26);
    due("27 light on the right alone", x.hour(0, 2), 1);
    x.up(60, 21);
    due("28 of one", x.eyes(), 1 << 23);
    x.rule(5, 0);
    x.up(0, 1);
    due("28 most hours", x.eyes(), 0xffffff & ~(1 << 23 | 1 << 5 | 1));
    due("27 what", x.hour(0, 3), Check.BEYOND);
    due("27 what below", x.hour(0, -1), Check.BEYOND);
    due("27 hour", x.hour(24, 0), Check.BEYOND);
    due("27 hour below", x.hour(-1, 0), Check.BEYOND);
  }

  private static void promise29Best() {
    UpOneSide x = new UpOneSide();
    due("29 all light", x.best(), 60);
    x.sun(0, 31);
    due("29 by the first hour", x.best(), 31);
    x.sun(3, 30);
    due("29 thirty", x.best(), 30);
    x.sun(23, 25);
    due("29 twenty-five", x.best(), 25);
    x.rule(5, 26);
    due("29 by the chair", x.best(), 30);
    x.rule(5, 25);
    due("29 at the chair", x.best(), 25);
    x.rule(5, 0);
    due("29 in the eyes from 1 on", x.best(), 0);
    for (int hour = 0; hour < 24; hour++) {
      x.sun(hour, 40);
    }
    due("29 the least without light", x.best(), 0);
    x.up(60, 0);
    due("29 whatever it is now", x.best(), 0);
    due("29 nothing changes", x.now(2), 60);
  }

  private static void promise30And31Holds() {
    UpOneSide x = Check.told("pull by 0;slip 0;up 9 9");
    due("30 none", x.where(), 0);
    UpOneSide y = Check.told("pull;up 1 9");
    y.does(0);
    due("30 at one", y.where(), 1);
    x.does(0);
    due("30 one", x.where(), 9);
    x.up(4, 9);
    x.does(0);
    due("30 the least of two", x.where(), 4);
    x.up(60, 9);
    x.does(0);
    x.does(0);
    x.does(0);
    due("30 the last", x.where(), 60);
    x.rule(4, 40);
    due("31 above", x.holds(0), 247);
    due("31 below", x.holds(1), 250);
    x.up(5, 9);
    due("31 sure above", x.holds(0), 1);
    due("31 sure below", x.holds(1), 1);
    x.rule(4, 99);
    for (int i = 0; i < 5; i++) {
      x.hands(20);
    }
    due("31 hundred times", x.holds(0), 1);
    due("31 of hundred", x.holds(1), 100);
    x.does(0);
    due("31 nearly", x.holds(0), 1);
    due("31 of 10000", x.holds(1), 10000);
    x.does(0);
    due("31 breaks", x.holds(0), 0);
    due("31 breaks, below", x.holds(1), 1);
    due("32 breaks", x.lasts(0, 3, 0), 0);
    due("32 breaks, below", x.lasts(0, 3, 1), 1);
    x.rule(4, 0);
    due("31 no break", x.holds(0), 1);
    due("31 what", x.holds(2), Check.BEYOND);
    due("31 what below", x.holds(-1), Check.BEYOND);
  }

  private static void promise32Lasts() {
    UpOneSide x = Check.told("pull by 0;pull by 1");
    x.rule(4, 50);
    // 1, then 199/200, 99/100, 197/200
    long[][] odds = {{1, 1}, {1, 1}, {199, 200}, {19701, 20000}, {3881097, 4000000}};
    for (int n = 0; n <= 4; n++) {
      due("32 above " + n, x.lasts(0, n, 0), odds[n][0]);
      due("32 below " + n, x.lasts(0, n, 1), odds[n][1]);
      due("32 each at another " + n, x.lasts(1, n, 0), 1);
    }
    due("32 no wear", x.count(4), 0);
    due("32 not done", x.count(3), 0);
    x.does(0);
    x.does(1);
    x.rule(4, 3);
    x.up(0, 0);
    // Twice worn at 0, then never at 1.
    due("32 at the half inch then", x.lasts(1, 2, 0), 4997);
    due("32 at the half inch then, below", x.lasts(1, 2, 1), 5000);
    // 9994 9991 9988 9985 of 10000 each, by 2 * 4 * 5 = 40 less
    due("32 longs", x.lasts(0, 4, 1), 250000000000000L);
    due("32 longs, above", x.lasts(0, 4, 0), 9994L * 9991 * 9988 * 9985 / 40);
    int[][] beyond = {{2, 0, 0}, {-1, 0, 0}, {0, 5, 0}, {0, -1, 0}, {0, 0, 2}, {0, 0, -1}};
    for (int[] of : beyond) {
      due("32 beyond", x.lasts(of[0], of[1], of[2]), Check.BEYOND);
    }
  }

  private static void lay(UpOneSide x, int s, int... numbers) {
    x.sheet(s, 16, numbers.length);
    for (int i = 0; i < numbers.length; i++) {
      x.write(s, i, numbers[i]);
    }
  }

  private static void fit(String what, UpOneSide x, int many, int first) {
    due("33 " + what, x.fits(0, 0), many);
    due("34 " + what, x.slips(0, 0), first);
  }

  private static void promise33And34Fits() {
    UpOneSide x = Check.told("pull;slip 7;wind 3");
    due("33 missing", x.fits(0, 5), Check.MISSING);
    due("34 missing", x.slips(0, 5), Check.MISSING);
    lay(x, 0);
    fit("nothing told", x, 100, 0);
    lay(x, 0, 5, 4);
    fit("once", x, 10, 10);
    lay(x, 0, -1, -1, -1, 8);
    fit("any", x, 10, 10);
    lay(x, 0, 5, 4, 10, 8, 16);
    fit("a last one alone", x, 4, 14);
    lay(x, 0, 5, 4, 10, 8, 16, 12);
    fit("thrice", x, 4, 14);
    lay(x, 0, 5, 4, 10, 8, 16, 13);
    fit("none", x, 0, Check.NONE);
    lay(x, 0, 6);
    fit("none at once", x, 0, Check.NONE);
    lay(x, 0, -1, 0);
    fit("held at 0", x, 50, 50);
    lay(x, 0, -1, -2);
    fit("-2 is no height", x, 0, Check.NONE);
    x.up(0, 20);
    lay(x, 0, -1, 15);
    fit("no slip is 10", x, 0, Check.NONE);
    lay(x, 0, 9, 16);
    x.change(0, 1, 9);
    x.up(0, 10);
    due("34 asked at once", x.slips(0, 0), 30);
    x.change(0, 1, 10);
    due("33 asked at once", x.fits(0, 0), 0);
    x.change(0, 1, 5);
    x.up(0, 0);
    due("33 the slip stays", x.ruled(1), 7);
    due("34 the wind stays", x.ruled(2), 3);
    due("33 no pull", x.fits(0, 1), Check.BEYOND);
    due("34 no pull", x.slips(0, 1), Check.BEYOND);
    due("33 pull below", x.fits(0, -1), Check.BEYOND);
    due("34 pull below", x.slips(0, -1), Check.BEYOND);
    due("33 no sheet", x.fits(4, 0), Check.BEYOND);
    due("34 no sheet", x.slips(4, 0), Check.BEYOND);
    due("33 sheet below", x.fits(-1, 0), Check.BEYOND);
    due("34 sheet below", x.slips(-1, 0), Check.BEYOND);
    x.sheet(0, 8, 2);
    x.write(0, 0, 255);
    x.write(0, 1, 2);
    fit("255 of 8 bits is any", x, 10, 30);
  }

  private static void promise35Hands() {
    UpOneSide x = new UpOneSide();
    due("35 no pulls", x.hands(1), Check.STATE);
    due("35 none", x.hands(0), Check.BEYOND);
    due("35 above", x.hands(21), Check.BEYOND);
    due("35 no draw", x.count(6), 1);
    Check.tell(x, "pull by 0;pull by 1;pull by 2;pull by 3;pull by 4;pull by 5;pull by 6;slip 0");
    x.up(0, 30);
    // The draw is 4310654, the rest by seven is 5.
    due("35 one", x.hands(1), 0);
    due("35 pull 5", x.now(0), 5);
    due("35 right", x.now(1), 35);
    due("35 z", x.count(6), 1103527590);
    due("35 wear", x.wear(0), 1);
    due("35 done", x.now(3), 1);
    x.rule(1, 1);
    x.up(0, 0);
    long z = 1103527590L;
    int left = 0;
    int right = 0;
    int grew = 0;
    for (int i = 0; i < 20; i++) {
      z = z * 1103515245L + 12345 & 0xffffffffL;
      int by = (int) ((z >> 8) % 7);
      int off = Math.abs(left - right);
      left = Math.min(60, left + by);
      right = Math.max(0, Math.min(60, right + by - 1));
      grew += Math.abs(left - right) > off ? 1 : 0;
    }
    due("35 twenty", x.hands(20), grew);
    due("35 left behind twenty", x.now(0), left);
    due("35 right behind twenty", x.now(1), right);
    due("35 z behind twenty", x.count(6), (int) z);
    due("35 done twenty more", x.now(3), 21);
  }

  private static void promise36Seed() {
    UpOneSide x = Check.told("pull");
    due("36 first", x.seed(-2000000), 1);
    due("36 any int", x.seed(Integer.MIN_VALUE), -2000000);
    due("36 no finding", x.status(-1), 0);
    due("36 told", x.count(6), Integer.MIN_VALUE);
    due("36 no finding then", x.status(-1), 0);
    x.hands(1);
    due("36 drawn", x.seed(0), Integer.MIN_VALUE + 12345);
    x.seed(-1);
    x.pull(0);
    x.hands(1);
    due("36 a draw is never below 0", x.count(6), -1103515245 + 12345);
  }

  public static void main(String[] args) {
    promise19And20Fewest();
    promise20Alone();
    promise20LeastRow();
    promise21And22States();
    searchFollowsChanges();
    promise23And24Mends();
    promise25Mended();
    promise26To28Sun();
    promise29Best();
    promise30And31Holds();
    promise32Lasts();
    promise33And34Fits();
    promise35Hands();
    promise36Seed();
    Check.end();
  }
}
