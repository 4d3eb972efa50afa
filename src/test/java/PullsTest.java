/** Promises 1 to 18: pulls, rules, the blind, how level. */
public final class PullsTest {
  private static void due(String call, long got, long want) {
    Check.due(call, got, want);
  }

  private static UpOneSide withPull(int kind, int by, int lean) {
    UpOneSide x = new UpOneSide();
    x.pull(kind);
    x.change(0, 1, by);
    x.change(0, 2, lean);
    return x;
  }

  private static void promise1NewObject() {
    UpOneSide x = new UpOneSide();
    int[] counts = {0, 0, 0, 0, 0, 0, 1, 0};
    for (int what = 0; what < counts.length; what++) {
      due("1 count " + what, x.count(what), counts[what]);
    }
    int[] rules = {0, 1, 0, 60, 1, 20};
    for (int what = 0; what < rules.length; what++) {
      due("1 ruled " + what, x.ruled(what), rules[what]);
    }
    int[] prices = {1, 4, 30, 2};
    for (int mend = 0; mend < prices.length; mend++) {
      due("1 price " + mend, x.price(mend, 0), prices[mend]);
    }
    for (int hour = 0; hour < 24; hour++) {
      due("1 hour " + hour, x.hour(hour, 0), 0);
    }
    for (int at = 0; at <= 60; at++) {
      due("1 wear " + at, x.wear(at), 0);
    }
    due("1 status", x.status(-1), 0);
    for (int spot = 0; spot < 10; spot++) {
      due("1 as " + spot, x.as(spot, 0), Check.MISSING);
    }
    for (int s = 0; s < 4; s++) {
      due("1 write " + s, x.write(s, 0, 0), Check.MISSING);
    }
    due("1 of", x.of(0, 0), Check.BEYOND);
    due("1 undo", x.undo(), Check.NONE);
    due("1 tear", x.tear(), 0);
  }

  private static void promise2Pull() {
    UpOneSide x = new UpOneSide();
    due("2 below", x.pull(-1), Check.BEYOND);
    due("2 above", x.pull(7), Check.BEYOND);
    due("2 none yet", x.count(1), 0);
    for (int i = 0; i < 8; i++) {
      due("2 pull " + i, x.pull(i % 7), i);
      due("2 kind " + i, x.of(i, 0), i % 7);
      due("2 by " + i, x.of(i, 1), 5);
      due("2 lean " + i, x.of(i, 2), 0);
    }
    due("2 ninth", x.pull(0), Check.FULL);
    due("2 ninth of no kind", x.pull(7), Check.BEYOND);
    due("2 eight", x.count(1), 8);
  }

  private static void lifts(String what, UpOneSide x, int kind, int left, int right) {
    x.change(0, 0, kind);
    due("3 " + what + " kind " + kind + " left", x.of(0, 3), left);
    due("3 " + what + " kind " + kind + " right", x.of(0, 4), right);
  }

  private static void promise3Of() {
    UpOneSide x = withPull(0, 10, 3);
    x.rule(1, 2);
    x.rule(2, 3);
    x.rule(0, -4);
    x.rule(3, 40);
    x.up(40, 33);
    lifts("left up", x, 0, 13, 4);
    lifts("left up", x, 1, 10, 9);
    lifts("left up", x, 2, 16, 1);
    lifts("left up", x, 3, 16, -1);
    lifts("left up", x, 4, 29, -1);
    lifts("left up", x, 5, 3, 4);
    lifts("left up", x, 6, 3, 4);
    x.up(33, 40);
    lifts("right up", x, 0, 12, 4);
    lifts("right up", x, 1, 15, 3);
    lifts("right up", x, 2, 15, 1);
    lifts("right up", x, 3, 15, -1);
    lifts("right up", x, 4, 28, -1);
    lifts("right up", x, 5, 12, 4);
    lifts("right up", x, 6, 12, 0);
    x.rule(3, 33);
    lifts("at the curtain", x, 5, 2, 4);
    lifts("at the curtain", x, 6, 2, 0);
    x.change(0, 1, -5);
    lifts("downwards", x, 6, 2, -7);
    lifts("downwards", x, 4, -2, -16);
    x.up(19, 29);
    x.rule(2, 9);
    lifts("below the knot", x, 0, -3, -7);
    x.up(20, 30);
    lifts("two quotients", x, 0, -1, -11);
    x.up(30, 30);
    lifts("as high, not above", x, 6, 1, -11);
    x.up(60, 0);
    x.change(0, 1, 30);
    lifts("without ends", x, 4, 79, 23);
    due("3 what", x.of(0, 5), Check.BEYOND);
    due("3 what below", x.of(0, -1), Check.BEYOND);
    due("3 pull", x.of(1, 0), Check.BEYOND);
    due("3 pull below", x.of(-1, 0), Check.BEYOND);
    x.rule(2, 0);
    x.rule(0, 5);
    x.up(60, 30);
    lifts("a knot without wind", x, 0, 30, 33);
  }

  private static void promise4Change() {
    UpOneSide x = new UpOneSide();
    x.pull(3);
    x.pull(1);
    int[] first = {3, 5, 0};
    int[] least = {0, -30, -9};
    int[] most = {6, 30, 9};
    for (int what = 0; what < 3; what++) {
      due("4 least " + what, x.change(0, what, least[what]), first[what]);
      due("4 most " + what, x.change(0, what, most[what]), least[what]);
      due("4 below " + what, x.change(0, what, least[what] - 1), Check.BEYOND);
      due("4 above " + what, x.change(0, what, most[what] + 1), Check.BEYOND);
      due("4 stays " + what, x.of(0, what), most[what]);
    }
    due("4 other", x.of(1, 0), 1);
    due("4 what", x.change(0, 3, 0), Check.BEYOND);
    due("4 what below", x.change(0, -1, 0), Check.BEYOND);
    due("4 pull", x.change(2, 0, 0), Check.BEYOND);
    due("4 pull below", x.change(-1, 0, 0), Check.BEYOND);
  }

  private static void promise5And6Rules() {
    UpOneSide x = new UpOneSide();
    int[] first = {0, 1, 0, 60, 1, 20};
    int[] least = {-9, 0, 0, 0, 0, 0};
    int[] most = {9, 9, 9, 60, 99, 60};
    for (int what = 0; what < 6; what++) {
      due("5 least " + what, x.rule(what, least[what]), first[what]);
      due("6 least " + what, x.ruled(what), least[what]);
      due("5 most " + what, x.rule(what, most[what]), least[what]);
      due("6 most " + what, x.ruled(what), most[what]);
      due("5 below " + what, x.rule(what, least[what] - 1), Check.BEYOND);
      due("5 above " + what, x.rule(what, most[what] + 1), Check.BEYOND);
      due("6 stays " + what, x.ruled(what), most[what]);
    }
    due("5 what", x.rule(6, 0), Check.BEYOND);
    due("5 what below", x.rule(-1, 0), Check.BEYOND);
    due("6 what", x.ruled(6), Check.BEYOND);
    due("6 what below", x.ruled(-1), Check.BEYOND);
  }

  private static void promise7Price() {
    UpOneSide x = new UpOneSide();
    due("7 most", x.price(2, 99), 30);
    due("7 least", x.price(2, 0), 99);
    due("7 above", x.price(2, 100), Check.BEYOND);
    due("7 below", x.price(2, -1), Check.BEYOND);
    due("7 as it was", x.price(2, 7), 0);
    due("7 another", x.price(3, 7), 2);
    due("7 mend", x.price(4, 0), Check.BEYOND);
    due("7 mend below", x.price(-1, 0), Check.BEYOND);
  }

  private static void promise8Up() {
    UpOneSide x = new UpOneSide();
    due("8 left", x.up(60, 0), 60);
    due("8 right", x.up(0, 60), -60);
    due("8 both", x.up(17, 13), 4);
    int[][] beyond = {{61, 0}, {-1, 0}, {0, 61}, {0, -1}};
    for (int[] pair : beyond) {
      due("8 beyond", x.up(pair[0], pair[1]), Check.BEYOND);
    }
    due("8 l", x.now(0), 17);
    due("8 r", x.now(1), 13);
    due("8 no wear", x.count(4), 0);
    due("8 not done", x.count(3), 0);
  }

  private static void promise9Does() {
    UpOneSide x = withPull(0, 5, 0);
    due("9 no pull", x.does(1), Check.BEYOND);
    due("9 below", x.does(-1), Check.BEYOND);
    due("9 first", x.does(0), 1);
    due("9 second", x.does(0), 2);
    due("9 l", x.now(0), 10);
    due("9 r", x.now(1), 8);
    due("9 wear 0", x.wear(0), 1);
    due("9 wear 5", x.wear(5), 1);
    due("9 wear 10", x.wear(10), 0);
    due("9 done", x.now(3), 2);
    x.up(58, 58);
    due("9 held above", x.does(0), 0);
    due("9 top", x.now(0) * 100 + x.now(1), 6060);
    x.change(0, 1, -30);
    x.up(40, 2);
    due("9 held below", x.does(0), 10);
    due("9 right at 0", x.now(1), 0);
    x.up(2, 40);
    due("9 held below on the left", x.does(0), -9);
    due("9 both lifts from before", evenOnce(), 0);
  }

  /** The right half would be another one if the left had been lifted before. */
  private static int evenOnce() {
    UpOneSide x = withPull(1, 0, 0);
    x.up(20, 0);
    return x.does(0);
  }

  private static void promise9WearAtMost() {
    UpOneSide x = withPull(0, 0, 0);
    for (int i = 0; i < 499; i++) {
      x.hands(20);
    }
    due("9 worn", x.wear(0), 9980);
    x.hands(19);
    due("9 nearly", x.wear(0), 9999);
    x.does(0);
    due("9 most", x.wear(0), 9999);
    due("9 done all the same", x.now(3), 10000);
    x.rule(4, 1);
    due("31 nearly sure to break", x.holds(0), 1);
    due("31 of", x.holds(1), 10000);
  }

  private static void promise10To12() {
    UpOneSide x = withPull(0, 5, 0);
    x.does(0);
    x.up(0, 30);
    x.does(0);
    x.up(0, 30);
    int[] nows = {0, 30, -30, 2, 2};
    for (int what = 0; what < nows.length; what++) {
      due("10 now " + what, x.now(what), nows[what]);
    }
    due("10 what", x.now(5), Check.BEYOND);
    due("10 what below", x.now(-1), Check.BEYOND);
    x.up(7, 7);
    x.does(0);
    due("11 at 0", x.wear(0), 2);
    due("11 at 7", x.wear(7), 1);
    due("11 at 60", x.wear(60), 0);
    due("11 at 61", x.wear(61), Check.BEYOND);
    due("11 at -1", x.wear(-1), Check.BEYOND);
    due("12 together", x.cord(), 3);
    due("12 at 0", x.wear(0), 0);
    due("12 at 7", x.wear(7), 0);
    due("12 done ever stays", x.now(3), 3);
    due("12 again", x.cord(), 0);
    due("12 l stays", x.now(0), 12);
  }

  private static void promise13After() {
    UpOneSide x = withPull(0, 5, 0);
    int[] offs = {0, 1, 2, 3, 4, 5, 6, 7, 8, 9, 10, 11, 12, 8, 4, 0, 0};
    for (int n = 0; n < offs.length; n++) {
      due("13 after " + n, x.after(0, n), offs[n]);
    }
    due("13 most", x.after(0, 200), 0);
    due("13 above", x.after(0, 201), Check.BEYOND);
    due("13 below", x.after(0, -1), Check.BEYOND);
    due("13 no pull", x.after(1, 1), Check.BEYOND);
    due("13 pull below", x.after(-1, 1), Check.BEYOND);
    due("13 nothing changes", x.now(0) + x.now(1) + x.now(3) + x.count(4), 0);
  }

  private static void promise14Sign() {
    UpOneSide x = withPull(0, 5, 0);
    due("14 level again", x.sign(0), 0);
    x.up(30, 33);
    due("14 back", x.sign(0), 2);
    x.change(0, 0, 2);
    x.change(0, 2, 3);
    x.up(0, 0);
    due("14 farther", x.sign(0), 1);
    // The right stays, the left goes to its end: as far off as now, on the other side.
    x.change(0, 1, 2);
    x.change(0, 2, 1);
    x.up(0, 30);
    due("14 as much", x.sign(0), 0);
    // Right of 20 is lifted by one a pull: behind 39 it would be one farther off than behind 40.
    x.change(0, 0, 0);
    x.change(0, 1, 2);
    x.up(60, 20);
    due("14 forty times", x.sign(0), 2);
    x.change(0, 1, 0);
    x.up(0, 41);
    due("14 down to one", x.sign(0), 2);
    due("14 no pull", x.sign(1), Check.BEYOND);
    due("14 pull below", x.sign(-1), Check.BEYOND);
    due("14 nothing changes", x.now(1), 41);
  }

  /** On the left up by 1, on the right down by one: 40 pulls lead from -40 to 40, 39 to 38. */
  private static void promise14Forty() {
    UpOneSide x = withPull(2, 1, 0);
    x.rule(1, 2);
    x.up(0, 40);
    due("14 forty", x.sign(0), 0);
    x.up(0, 39);
    due("14 forty from one nearer", x.sign(0), 1);
    x.up(0, 41);
    due("14 forty from one farther", x.sign(0), 2);
  }

  private static void promise15Stays() {
    UpOneSide x = withPull(0, 5, 0);
    due("15 at the top", x.stays(0), 15);
    x.up(60, 60);
    due("15 at once", x.stays(0), 0);
    x.up(60, 0);
    x.rule(0, -9);
    due("15 to and fro", x.stays(0), Check.NONE);
    x.rule(0, 0);
    x.change(0, 1, 1);
    x.up(0, 60);
    due("15 sixty", x.stays(0), 60);
    x.up(60, 0);
    due("15 right alone", x.stays(0), 0);
    x.change(0, 1, 2);
    due("15 right alone goes", x.stays(0), 60);
    due("15 no pull", x.stays(1), Check.BEYOND);
    due("15 pull below", x.stays(-1), Check.BEYOND);
    due("15 nothing changes", x.now(1), 0);
  }

  private static void promise16Often() {
    UpOneSide x = withPull(0, 5, 0);
    due("16 more than 0", x.often(0, 0), 1);
    due("16 more than 3", x.often(0, 3), 4);
    due("16 more than 11", x.often(0, 11), 12);
    due("16 more than 12", x.often(0, 12), Check.NONE);
    due("16 more than 60", x.often(0, 60), Check.NONE);
    due("16 above", x.often(0, 61), Check.BEYOND);
    due("16 below", x.often(0, -1), Check.BEYOND);
    due("16 no pull", x.often(1, 0), Check.BEYOND);
    due("16 pull below", x.often(-1, 0), Check.BEYOND);
    x.up(0, 20);
    due("16 already", x.often(0, 19), 0);
    due("16 not yet", x.often(0, 20), Check.NONE);
    due("16 nothing changes", x.now(1), 20);
  }

  private static void promise17Knot() {
    UpOneSide x = withPull(0, 5, 0);
    x.up(40, 40);
    due("17 once", x.knot(0, 1), 1);
    due("17 never", x.knot(0, 0), 0);
    x.up(40, 37);
    due("17 what is missing", x.knot(0, 1), 4);
    x.up(40, 50);
    due("17 below 0", x.knot(0, 1), -9);
    x.up(40, 52);
    due("17 no less than -9", x.knot(0, 1), -9);
    for (int knot = -9; knot <= 9; knot++) {
      x.up(40, 41 - knot);
      due("17 just that one", x.knot(0, 1), knot);
    }
    x.up(40, 28);
    due("17 all alike", x.knot(0, 1), 0);
    due("17 most", x.knot(0, 20), 0);
    due("17 above", x.knot(0, 21), Check.BEYOND);
    due("17 below", x.knot(0, -1), Check.BEYOND);
    due("17 no pull", x.knot(1, 0), Check.BEYOND);
    due("17 pull below", x.knot(-1, 0), Check.BEYOND);
    due("17 the knot stays", x.ruled(0), 0);
    // -33, then -1 by 0 and so it stays; -2, then 0 by 1; 0, and so it stays, by -1.
    x.change(0, 0, 1);
    x.change(0, 1, 3);
    x.up(5, 38);
    due("17 of two below 0", x.knot(0, 2), -1);
    x.change(0, 0, 0);
    x.change(0, 1, 5);
    x.rule(0, 7);
    x.up(40, 40);
    due("17 whatever it is now", x.knot(0, 1), 1);
    due("17 it stays", x.ruled(0), 7);
  }

  private static void promise18KindFor() {
    UpOneSide x = withPull(4, 5, 0);
    x.up(20, 0);
    // PULL leaves 21, EVEN 0.
    due("18 even", x.kindFor(0, 1), 1);
    due("18 all alike", x.kindFor(0, 0), 0);
    x.up(0, 0);
    due("18 even again", x.kindFor(0, 20), 0);
    x.up(10, 16);
    x.change(0, 2, 1);
    // PULL -5, EVEN 0, SLANTING 1 + 1 + 1 - 6 = -3, SLIPPING -2, FANNED 4, CAUGHT -5, JAMMED -3.
    due("18 even of all", x.kindFor(0, 1), 1);
    x.up(10, 21);
    // PULL -10, EVEN -1, SLANTING -8, SLIPPING -7, FANNED -1, CAUGHT -10, JAMMED -8.
    due("18 the least of two", x.kindFor(0, 1), 1);
    x.rule(1, 9);
    // PULL -2, EVEN -1, SLANTING 0.
    due("18 slanting", x.kindFor(0, 1), 2);
    due("18 kind stays", x.of(0, 0), 4);
    due("18 above", x.kindFor(0, 21), Check.BEYOND);
    due("18 below", x.kindFor(0, -1), Check.BEYOND);
    due("18 no pull", x.kindFor(1, 0), Check.BEYOND);
    due("18 pull below", x.kindFor(-1, 0), Check.BEYOND);
  }

  public static void main(String[] args) {
    promise1NewObject();
    promise2Pull();
    promise3Of();
    promise4Change();
    promise5And6Rules();
    promise7Price();
    promise8Up();
    promise9Does();
    promise9WearAtMost();
    promise10To12();
    promise13After();
    promise14Sign();
    promise14Forty();
    promise15Stays();
    promise16Often();
    promise17Knot();
    promise18KindFor();
    Check.end();
  }
}
