import java.util.Arrays;

/** A blind that goes up on one side only; ../shared/DOC.md tells what each act answers. */
public final class UpOneSide {
  private static final int LOW = -1000001;

  // How far below LOW each finding lies: its number in status(), too.
  private static final int BEYOND = 0;
  private static final int FULL = 1;
  private static final int KIND = 2;
  private static final int NONE = 3;
  private static final int STATE = 4;
  private static final int MISSING = 5;
  private static final int SIZE = 6;
  private static final int FINDINGS = 7;

  private static final int KNOT = 0;
  private static final int SLIP = 1;
  private static final int WIND = 2;
  private static final int CURTAIN = 3;
  private static final int BREAK = 4;
  private static final int CHAIR = 5;
  private static final int[] RULE_LEAST = {-9, 0, 0, 0, 0, 0};
  private static final int[] RULE_MOST = {9, 9, 9, 60, 99, 60};

  private static final int EVEN = 1;
  private static final int SLANTING = 2;
  private static final int SLIPPING = 3;
  private static final int FANNED = 4;
  private static final int CAUGHT = 5;
  private static final int JAMMED = 6;
  private static final int KINDS = 7;
  // Of each kind the one that it is under.
  private static final int[] UNDER = {-1, 0, 0, 2, 3, 0, 5};

  // Of kind, by and lean.
  private static final int[] TRAIT_LEAST = {0, -30, -9};
  private static final int[] TRAIT_MOST = {6, 30, 9};
  private static final int BY_AT_FIRST = 5;
  private static final int LEAN_AT_FIRST = 0;

  private static final int TOP = 60;
  private static final int HEIGHTS = 61;
  private static final int HOURS = 24;
  private static final int MOST_PULLS = 8;
  private static final int MOST_WEAR = 9999;
  private static final int MOST_DONE = 99999;
  private static final int MENDS = 4;
  private static final int MEND_SETS = 16;
  private static final int MOST_PRICE = 99;
  private static final int LONG_ROW = 200;
  private static final int SHORT_ROW = 20;
  private static final int SIGN_ROW = 40;
  private static final int LASTING_ROW = 4;
  private static final int SLIPS_AND_WINDS = 100;
  private static final int ALL_ODDS = 10000;
  private static final int SPOTS = 10;
  private static final int SHEETS = 4;
  private static final int MOST_NUMBERS = 40;
  private static final int MOST_BYTES = 120;
  private static final int ANY = -1;
  private static final int NOTHING = -1;

  private final Blind blind = new Blind();
  // What-if pulls are tried on it, so that the real one stays as it is.
  private final Blind draft = new Blind();
  private final Blind kept = new Blind();
  private boolean isKept = false;
  private final Search search = new Search();
  private final Tape tape = new Tape();
  private final Reader reader = new Reader();
  private final Sheet[] sheets = new Sheet[SHEETS];
  private final int[] findings = new int[FINDINGS];

  public UpOneSide() {
    for (int s = 0; s < sheets.length; s++) {
      sheets[s] = new Sheet();
    }
  }

  // ---- pulls, rules

  public int pull(int kind) {
    if (!within(kind, 0, KINDS - 1)) {
      return finding(BEYOND);
    }
    if (blind.pulls >= MOST_PULLS) {
      return finding(FULL);
    }
    blind.addPull(kind, BY_AT_FIRST, LEAN_AT_FIRST);
    return blind.pulls - 1;
  }

  public int of(int pull, int what) {
    if (noPull(pull) || !within(what, 0, 4)) {
      return finding(BEYOND);
    }
    if (what == 3) {
      return blind.leftLift(pull);
    }
    if (what == 4) {
      return blind.rightLift(pull);
    }
    return blind.trait(what)[pull];
  }

  public int change(int pull, int what, int v) {
    if (noPull(pull) || !within(what, 0, 2) || !within(v, TRAIT_LEAST[what], TRAIT_MOST[what])) {
      return finding(BEYOND);
    }
    return exchange(blind.trait(what), pull, v);
  }

  public int rule(int what, int v) {
    if (!within(what, KNOT, CHAIR) || !within(v, RULE_LEAST[what], RULE_MOST[what])) {
      return finding(BEYOND);
    }
    return exchange(blind.rules, what, v);
  }

  public int ruled(int what) {
    if (!within(what, KNOT, CHAIR)) {
      return finding(BEYOND);
    }
    return blind.rules[what];
  }

  public int price(int mend, int v) {
    if (!within(mend, 0, MENDS - 1) || !within(v, 0, MOST_PRICE)) {
      return finding(BEYOND);
    }
    return exchange(blind.prices, mend, v);
  }

  // ---- the blind

  public int up(int l, int r) {
    if (!within(l, 0, TOP) || !within(r, 0, TOP)) {
      return finding(BEYOND);
    }
    blind.l = l;
    blind.r = r;
    return blind.off();
  }

  public int does(int pull) {
    if (noPull(pull)) {
      return finding(BEYOND);
    }
    if (blind.done + 1 > MOST_DONE) {
      return finding(STATE);
    }
    blind.perform(pull);
    return blind.off();
  }

  public int now(int what) {
    switch (what) {
      case 0:
        return blind.l;
      case 1:
        return blind.r;
      case 2:
        return blind.off();
      case 3:
        return blind.done;
      case 4:
        return blind.wear[blind.l];
      default:
        return finding(BEYOND);
    }
  }

  public int wear(int at) {
    if (!within(at, 0, TOP)) {
      return finding(BEYOND);
    }
    return blind.wear[at];
  }

  public int cord() {
    int worn = blind.wearTogether();
    Arrays.fill(blind.wear, 0);
    return worn;
  }

  // ---- how level (nothing changes)

  public int after(int pull, int n) {
    if (noPull(pull) || !within(n, 0, LONG_ROW)) {
      return finding(BEYOND);
    }
    draft.takeOver(blind);
    draft.moveTimes(pull, n);
    return draft.off();
  }

  public int sign(int pull) {
    if (noPull(pull)) {
      return finding(BEYOND);
    }
    draft.takeOver(blind);
    draft.moveTimes(pull, SIGN_ROW);
    int before = blind.offSize();
    int behind = draft.offSize();
    if (behind == before) {
      return 0;
    }
    return behind > before ? 1 : 2;
  }

  public int stays(int pull) {
    if (noPull(pull)) {
      return finding(BEYOND);
    }
    draft.takeOver(blind);
    for (int times = 0; times <= LONG_ROW; times++) {
      int l = draft.l;
      int r = draft.r;
      draft.move(pull);
      if (draft.l == l && draft.r == r) {
        return times;
      }
    }
    return finding(NONE);
  }

  public int often(int pull, int v) {
    if (noPull(pull) || !within(v, 0, TOP)) {
      return finding(BEYOND);
    }
    draft.takeOver(blind);
    for (int times = 0; times <= LONG_ROW; times++) {
      if (draft.offSize() > v) {
        return times;
      }
      draft.move(pull);
    }
    return finding(NONE);
  }

  public int knot(int pull, int n) {
    if (noPull(pull) || !within(n, 0, SHORT_ROW)) {
      return finding(BEYOND);
    }
    draft.takeOver(blind);
    int least = HEIGHTS;
    int chosen = 0;
    // Tried from 0 outwards, below 0 first: the first of several is the one told.
    for (int i = 0; i < 2 * RULE_MOST[KNOT] + 1; i++) {
      int tried = i % 2 == 0 ? i / 2 : -(i + 1) / 2;
      draft.rules[KNOT] = tried;
      int off = triedOff(pull, n);
      if (off < least) {
        least = off;
        chosen = tried;
      }
    }
    return chosen;
  }

  public int kindFor(int pull, int n) {
    if (noPull(pull) || !within(n, 0, SHORT_ROW)) {
      return finding(BEYOND);
    }
    draft.takeOver(blind);
    int least = HEIGHTS;
    int chosen = 0;
    for (int kind = 0; kind < KINDS; kind++) {
      draft.kinds[pull] = kind;
      int off = triedOff(pull, n);
      if (off < least) {
        least = off;
        chosen = kind;
      }
    }
    return chosen;
  }

  // ---- fewest pulls

  public int fewest(int h) {
    if (!within(h, 0, TOP)) {
      return finding(BEYOND);
    }
    search.explore(blind);
    int at = search.firstLevel(h);
    return at < 0 ? finding(NONE) : search.steps(at);
  }

  public int first(int h) {
    if (!within(h, 0, TOP)) {
      return finding(BEYOND);
    }
    search.explore(blind);
    int at = search.firstLevel(h);
    // The pair at 0 is that of now.
    return at <= 0 ? finding(NONE) : search.opening(at);
  }

  public int states() {
    search.explore(blind);
    return search.pairs;
  }

  public int worst() {
    search.explore(blind);
    return search.widest;
  }

  // ---- mends

  public int mends(int pull, int n, int v) {
    if (badMending(pull, n, v)) {
      return finding(BEYOND);
    }
    int set = cheapest(pull, n, v);
    return set < 0 ? finding(NONE) : set;
  }

  public int costs(int pull, int n, int v) {
    if (badMending(pull, n, v)) {
      return finding(BEYOND);
    }
    int set = cheapest(pull, n, v);
    return set < 0 ? finding(NONE) : blind.costOf(set);
  }

  public int mended(int set) {
    if (!within(set, 0, MEND_SETS - 1)) {
      return finding(BEYOND);
    }
    blind.mend(set);
    return blind.costOf(set);
  }

  // ---- sun

  public int sun(int hour, int v) {
    if (!within(hour, 0, HOURS - 1) || !within(v, 0, TOP)) {
      return finding(BEYOND);
    }
    return exchange(blind.suns, hour, v);
  }

  public int hour(int hour, int what) {
    if (!within(hour, 0, HOURS - 1) || !within(what, 0, 2)) {
      return finding(BEYOND);
    }
    if (what == 0) {
      return blind.suns[hour];
    }
    if (what == 1) {
      return blind.dazzles(hour) ? 1 : 0;
    }
    return blind.lightAt(hour);
  }

  public int eyes() {
    int set = 0;
    for (int hour = 0; hour < HOURS; hour++) {
      if (blind.dazzles(hour)) {
        set |= 1 << hour;
      }
    }
    return set;
  }

  public int best() {
    draft.takeOver(blind);
    int most = -1;
    int chosen = 0;
    for (int h = 0; h <= TOP; h++) {
      draft.l = h;
      draft.r = h;
      int light = draft.lightOfDay();
      if (light > most) {
        most = light;
        chosen = h;
      }
    }
    return chosen;
  }

  // ---- breaking

  public int where() {
    int chosen = 0;
    for (int at = 1; at < HEIGHTS; at++) {
      if (blind.wear[at] > blind.wear[chosen]) {
        chosen = at;
      }
    }
    return chosen;
  }

  public int holds(int what) {
    if (!within(what, 0, 1)) {
      return finding(BEYOND);
    }
    return (int) inLowestTerms(blind.oddsToHold(), ALL_ODDS, what);
  }

  public long lasts(int pull, int n, int what) {
    if (noPull(pull) || !within(n, 0, LASTING_ROW) || !within(what, 0, 1)) {
      return finding(BEYOND);
    }
    draft.takeOver(blind);
    long above = 1;
    long below = 1;
    for (int times = 0; times < n; times++) {
      above *= draft.oddsToHold();
      below *= ALL_ODDS;
      draft.perform(pull);
    }
    return inLowestTerms(above, below, what);
  }

  // ---- told heights

  public int fits(int s, int pull) {
    Sheet page = sheetAt(s);
    if (page == null) {
      return finding(BEYOND);
    }
    if (page.isMissing()) {
      return finding(MISSING);
    }
    if (noPull(pull)) {
      return finding(BEYOND);
    }
    draft.takeOver(blind);
    int fitting = 0;
    for (int pair = 0; pair < SLIPS_AND_WINDS; pair++) {
      if (follows(page, pull, pair)) {
        fitting++;
      }
    }
    return fitting;
  }

  public int slips(int s, int pull) {
    Sheet page = sheetAt(s);
    if (page == null) {
      return finding(BEYOND);
    }
    if (page.isMissing()) {
      return finding(MISSING);
    }
    if (noPull(pull)) {
      return finding(BEYOND);
    }
    draft.takeOver(blind);
    for (int pair = 0; pair < SLIPS_AND_WINDS; pair++) {
      if (follows(page, pull, pair)) {
        return pair;
      }
    }
    return finding(NONE);
  }

  // ---- draws

  public int hands(int n) {
    if (!within(n, 1, SHORT_ROW)) {
      return finding(BEYOND);
    }
    if (blind.pulls <= 0 || blind.done + n > MOST_DONE) {
      return finding(STATE);
    }
    int grew = 0;
    for (int times = 0; times < n; times++) {
      int before = blind.offSize();
      blind.perform(blind.draw() % blind.pulls);
      if (blind.offSize() > before) {
        grew++;
      }
    }
    return grew;
  }

  public int seed(int v) {
    int was = blind.z;
    blind.z = v;
    return was;
  }

  // ---- texts

  public int feed(int bytes, int n) {
    if (!within(n, 1, 4)) {
      return finding(BEYOND);
    }
    if (tape.size + n > MOST_BYTES) {
      return finding(FULL);
    }
    tape.add(bytes, n);
    return tape.size;
  }

  public int wipe() {
    int had = tape.size;
    tape.size = 0;
    return had;
  }

  public int text() {
    draft.takeOver(blind);
    int answer = reader.read(tape, draft);
    if (answer > 0) {
      blind.takeOver(draft);
    }
    tape.size = 0;
    return answer;
  }

  // ---- spots, sheets

  public int hold(int spot, int pull) {
    if (!within(spot, 0, SPOTS - 1) || (pull != NOTHING && noPull(pull))) {
      return finding(BEYOND);
    }
    blind.spots[spot] = pull;
    return 1;
  }

  public int as(int spot, int kind) {
    if (!within(spot, 0, SPOTS - 1) || !within(kind, 0, KINDS - 1)) {
      return finding(BEYOND);
    }
    int pull = blind.spots[spot];
    if (noPull(pull)) {
      return finding(MISSING);
    }
    return isUnder(blind.kinds[pull], kind) ? pull : finding(KIND);
  }

  public int sheet(int s, int bits, int n) {
    Sheet page = sheetAt(s);
    if (page == null || (bits != 0 && bits != 8 && bits != 16 && bits != 32)) {
      return finding(BEYOND);
    }
    if (n < 0) {
      return finding(SIZE);
    }
    if (n > MOST_NUMBERS) {
      return finding(BEYOND);
    }
    page.lay(bits, n);
    return page.size;
  }

  public int write(int s, int i, int v) {
    Sheet page = sheetAt(s);
    if (page == null) {
      return finding(BEYOND);
    }
    if (page.isMissing()) {
      return finding(MISSING);
    }
    if (!within(i, 0, page.size - 1)) {
      return finding(BEYOND);
    }
    page.put(i, v);
    return 1;
  }

  public int copy(int s, int from, int t, int to, int n) {
    Sheet source = sheetAt(s);
    Sheet target = sheetAt(t);
    if (source == null || target == null) {
      return finding(BEYOND);
    }
    if (source.isMissing() || target.isMissing()) {
      return finding(MISSING);
    }
    if (source.bits != target.bits) {
      return finding(KIND);
    }
    if (!source.has(from, n) || !target.has(to, n)) {
      return finding(BEYOND);
    }
    System.arraycopy(source.numbers, from, target.numbers, to, n);
    return n;
  }

  public int load(int s) {
    Sheet page = sheetAt(s);
    if (page == null) {
      return finding(BEYOND);
    }
    if (page.isMissing()) {
      return finding(MISSING);
    }
    int hour = 0;
    while (hour < HOURS && hour < page.size && within(page.numbers[hour], 0, TOP)) {
      blind.suns[hour] = page.numbers[hour];
      hour++;
    }
    return hour;
  }

  public int judge(int s) {
    Sheet page = sheetAt(s);
    if (page == null) {
      return finding(BEYOND);
    }
    if (page.isMissing()) {
      return finding(MISSING);
    }
    draft.takeOver(blind);
    int most = draft.offSize();
    for (int i = 0; i < page.size; i++) {
      int pull = page.numbers[i];
      if (noPull(pull)) {
        return finding(STATE);
      }
      draft.move(pull);
      most = Math.max(most, draft.offSize());
    }
    return most;
  }

  // ---- images

  public int image() {
    kept.takeOver(blind);
    isKept = true;
    return 1;
  }

  public int undo() {
    if (!isKept) {
      return finding(NONE);
    }
    blind.takeOver(kept);
    return blind.l;
  }

  public int tear() {
    int was = isKept ? 1 : 0;
    isKept = false;
    return was;
  }

  public int count(int what) {
    switch (what) {
      case 0:
        return blind.l;
      case 1:
        return blind.pulls;
      case 2:
        return blind.r;
      case 3:
        return blind.done;
      case 4:
        return blind.wearTogether();
      case 5:
        return tape.size;
      case 6:
        return blind.z;
      case 7:
        return blind.spotsHeld();
      default:
        return finding(BEYOND);
    }
  }

  public int status(int which) {
    if (!within(which, -1, FINDINGS - 1)) {
      return finding(BEYOND);
    }
    if (which >= 0) {
      return findings[which];
    }
    int all = 0;
    for (int i = 0; i < findings.length; i++) {
      all += findings[i];
    }
    return all;
  }

  // ---- what several acts share

  private int finding(int which) {
    findings[which]++;
    return LOW - which;
  }

  private static boolean within(int v, int least, int most) {
    return v >= least && v <= most;
  }

  private boolean noPull(int pull) {
    return pull < 0 || pull >= blind.pulls;
  }

  private Sheet sheetAt(int s) {
    return s < 0 || s >= sheets.length ? null : sheets[s];
  }

  private static int exchange(int[] row, int at, int v) {
    int was = row[at];
    row[at] = v;
    return was;
  }

  /** OFF without its sign behind n times a pull, from now, by what the draft tells otherwise. */
  private int triedOff(int pull, int n) {
    draft.l = blind.l;
    draft.r = blind.r;
    draft.moveTimes(pull, n);
    return draft.offSize();
  }

  private boolean badMending(int pull, int n, int v) {
    return noPull(pull) || !within(n, 0, SHORT_ROW) || !within(v, 0, TOP);
  }

  /** The cheapest set of mends that does, or -1. */
  private int cheapest(int pull, int n, int v) {
    int chosen = -1;
    for (int set = 0; set < MEND_SETS; set++) {
      if (chosen < 0 || blind.costOf(set) < blind.costOf(chosen)) {
        draft.takeOver(blind);
        draft.mend(set);
        if (triedOff(pull, n) <= v) {
          chosen = set;
        }
      }
    }
    return chosen;
  }

  /** If a pull done over and over by that slip and wind (10 slip and wind) goes as the sheet tells. */
  private boolean follows(Sheet page, int pull, int pair) {
    draft.l = blind.l;
    draft.r = blind.r;
    draft.rules[SLIP] = pair / 10;
    draft.rules[WIND] = pair % 10;
    for (int i = 0; i < page.size; i += 2) {
      draft.move(pull);
      if (!page.allows(i, draft.l) || !page.allows(i + 1, draft.r)) {
        return false;
      }
    }
    return true;
  }

  private static boolean isUnder(int kind, int wanted) {
    int at = kind;
    for (int i = 0; i < KINDS && at >= 0 && at < UNDER.length; i++) {
      if (at == wanted) {
        return true;
      }
      at = UNDER[at];
    }
    return false;
  }

  /** What is above (0) or below (1) the line of the fraction in lowest terms. */
  private static long inLowestTerms(long above, long below, int what) {
    long part = Math.max(1, commonPart(above, below));
    return what == 0 ? above / part : below / part;
  }

  private static long commonPart(long a, long b) {
    long larger = a;
    long smaller = b;
    // Of longs Euclid's way takes fewer than a hundred steps.
    for (int i = 0; i < 200 && smaller != 0; i++) {
      long rest = larger % smaller;
      larger = smaller;
      smaller = rest;
    }
    return larger;
  }

  /** All that an image keeps: the blind with its pulls, rules, prices, wear, sun, draws and spots. */
  private static final class Blind {
    int l = 0;
    int r = 0;
    int done = 0;
    int z = 1;
    int pulls = 0;
    final int[] kinds = new int[MOST_PULLS];
    final int[] bys = new int[MOST_PULLS];
    final int[] leans = new int[MOST_PULLS];
    final int[] rules = {0, 1, 0, 60, 1, 20};
    final int[] prices = {1, 4, 30, 2};
    final int[] wear = new int[HEIGHTS];
    final int[] suns = new int[HOURS];
    final int[] spots = {-1, -1, -1, -1, -1, -1, -1, -1, -1, -1};

    void takeOver(Blind other) {
      l = other.l;
      r = other.r;
      done = other.done;
      z = other.z;
      pulls = other.pulls;
      System.arraycopy(other.kinds, 0, kinds, 0, MOST_PULLS);
      System.arraycopy(other.bys, 0, bys, 0, MOST_PULLS);
      System.arraycopy(other.leans, 0, leans, 0, MOST_PULLS);
      System.arraycopy(other.rules, 0, rules, 0, rules.length);
      System.arraycopy(other.prices, 0, prices, 0, MENDS);
      System.arraycopy(other.wear, 0, wear, 0, HEIGHTS);
      System.arraycopy(other.suns, 0, suns, 0, HOURS);
      System.arraycopy(other.spots, 0, spots, 0, SPOTS);
    }

    /** If all pulls go from here as they go from the other one. */
    boolean movesLike(Blind other) {
      boolean same = l == other.l && r == other.r && pulls == other.pulls;
      for (int what = KNOT; what <= CURTAIN; what++) {
        same = same && rules[what] == other.rules[what];
      }
      for (int pull = 0; same && pull < pulls && pull < MOST_PULLS; pull++) {
        same = kinds[pull] == other.kinds[pull] && bys[pull] == other.bys[pull]
            && leans[pull] == other.leans[pull];
      }
      return same;
    }

    int[] trait(int what) {
      if (what == 0) {
        return kinds;
      }
      return what == 1 ? bys : leans;
    }

    void addPull(int kind, int by, int lean) {
      if (pulls < MOST_PULLS) {
        kinds[pulls] = kind;
        bys[pulls] = by;
        leans[pulls] = lean;
        pulls++;
      }
    }

    int off() {
      return l - r;
    }

    int offSize() {
      return Math.abs(l - r);
    }

    int leftLift(int pull) {
      int lift = bys[pull];
      switch (kinds[pull]) {
        case EVEN:
          lift -= (l - r) / 2;
          break;
        case SLANTING:
        case SLIPPING:
          lift += leans[pull];
          break;
        case FANNED:
          lift = 2 * (lift + leans[pull]);
          break;
        case CAUGHT:
        case JAMMED:
          lift = l >= rules[CURTAIN] ? 0 : lift;
          break;
        default:
          break;
      }
      return lift + l / 10 * rules[WIND] / 4;
    }

    int rightLift(int pull) {
      int lift = bys[pull];
      switch (kinds[pull]) {
        case EVEN:
          lift += (l - r) / 2;
          break;
        case SLANTING:
          lift -= rules[SLIP] + leans[pull];
          break;
        case SLIPPING:
        case FANNED:
          lift -= 2 * rules[SLIP] + leans[pull];
          break;
        case JAMMED:
          lift -= rules[SLIP];
          lift = r > l ? lift / 2 : lift;
          break;
        default:
          lift -= rules[SLIP];
          break;
      }
      return r >= 30 ? lift + rules[KNOT] : lift;
    }

    /** L and R alone, without wear: enough for what-if pulls. */
    void move(int pull) {
      int left = l + leftLift(pull);
      int right = r + rightLift(pull);
      l = Math.max(0, Math.min(TOP, left));
      r = Math.max(0, Math.min(TOP, right));
    }

    void moveTimes(int pull, int n) {
      for (int times = 0; times < n; times++) {
        move(pull);
      }
    }

    void perform(int pull) {
      wear[l] = Math.min(MOST_WEAR, wear[l] + 1);
      done++;
      move(pull);
    }

    int wearTogether() {
      int together = 0;
      for (int at = 0; at < HEIGHTS; at++) {
        together += wear[at];
      }
      return together;
    }

    void mend(int set) {
      if ((set & 1) != 0) {
        rules[SLIP] = 0;
      }
      if ((set & 2) != 0) {
        rules[KNOT] = 0;
      }
      if ((set & 4) != 0) {
        rules[WIND] = 0;
      }
      if ((set & 8) != 0) {
        rules[CURTAIN] = TOP;
      }
    }

    int costOf(int set) {
      int cost = 0;
      for (int mend = 0; mend < MENDS; mend++) {
        if ((set >> mend & 1) != 0) {
          cost += prices[mend];
        }
      }
      return cost;
    }

    boolean dazzles(int hour) {
      return r > suns[hour] && suns[hour] >= rules[CHAIR];
    }

    int lightAt(int hour) {
      return Math.max(0, l - suns[hour]) + Math.max(0, r - suns[hour]);
    }

    /** Light of all hours together, or -1 if it is in somebody's eyes at one. */
    int lightOfDay() {
      int light = 0;
      for (int hour = 0; hour < HOURS; hour++) {
        if (dazzles(hour)) {
          return -1;
        }
        light += lightAt(hour);
      }
      return light;
    }

    /** Of 10000. */
    int oddsToHold() {
      return Math.max(0, ALL_ODDS - rules[BREAK] * wear[l]);
    }

    int draw() {
      z = z * 1103515245 + 12345;
      return z >>> 8;
    }

    int spotsHeld() {
      int held = 0;
      for (int spot = 0; spot < SPOTS; spot++) {
        if (spots[spot] != NOTHING) {
          held++;
        }
      }
      return held;
    }
  }

  /**
   * All pairs of L and R that pulls come to, in the order of their fewest pulls and, of as many
   * pulls, of their least rows: a queue in which pairs wait, with the pulls tried in their order.
   */
  private static final class Search {
    // Of each L a bit for each R.
    private final long[] seen = new long[HEIGHTS];
    // Each pair as R, L (6 bits each), the row's first pull (3 bits), its length.
    private final int[] queue = new int[HEIGHTS * HEIGHTS];
    // From where it was explored last: acts often ask of the same again.
    private final Blind start = new Blind();
    private final Blind walker = new Blind();
    private boolean explored = false;
    int pairs = 0;
    int widest = 0;

    void explore(Blind from) {
      if (explored && start.movesLike(from)) {
        return;
      }
      start.takeOver(from);
      walker.takeOver(from);
      explored = true;
      pairs = 0;
      widest = 0;
      Arrays.fill(seen, 0L);
      visit(0, 0);
      for (int at = 0; at < pairs && at < queue.length; at++) {
        for (int pull = 0; pull < from.pulls; pull++) {
          walker.l = left(at);
          walker.r = right(at);
          walker.move(pull);
          visit(steps(at) + 1, at == 0 ? pull : opening(at));
        }
      }
    }

    private void visit(int steps, int opening) {
      long bit = 1L << walker.r;
      if ((seen[walker.l] & bit) != 0 || pairs >= queue.length) {
        return;
      }
      seen[walker.l] |= bit;
      queue[pairs] = steps << 15 | opening << 12 | walker.l << 6 | walker.r;
      pairs++;
      widest = Math.max(widest, walker.offSize());
    }

    private int left(int at) {
      return queue[at] >> 6 & 63;
    }

    private int right(int at) {
      return queue[at] & 63;
    }

    int opening(int at) {
      return queue[at] >> 12 & 7;
    }

    int steps(int at) {
      return queue[at] >> 15;
    }

    /** The place of the first pair that is level at h or more, or -1. */
    int firstLevel(int h) {
      for (int at = 0; at < pairs && at < queue.length; at++) {
        if (left(at) == right(at) && left(at) >= h) {
          return at;
        }
      }
      return -1;
    }
  }

  private static final class Tape {
    final byte[] bytes = new byte[MOST_BYTES];
    int size = 0;

    void add(int number, int n) {
      for (int i = n - 1; i >= 0 && size < MOST_BYTES; i--) {
        bytes[size] = (byte) (number >>> 8 * i);
        size++;
      }
    }
  }

  /** Reads a text token by token; the first fault counts, and what is read behind it is free. */
  private static final class Reader {
    private static final int END = 0;
    private static final int WORD = 1;
    private static final int NUMBER = 2;
    private static final int SEMICOLON = 3;
    private static final int MINUS = 4;
    private static final int OTHER = 5;
    // Above all that a number may be; longer ones needn't be told apart.
    private static final int TOO_MUCH = 1000;
    private static final int NO_FAULT = -1;

    private byte[] bytes = new byte[0];
    private int size = 0;
    private int token = END;
    private int start = 0;
    private int next = 0;
    private int value = 0;
    private int fault = NO_FAULT;

    /** How many items the draft now holds, or -1 less the fault (the draft is waste then). */
    int read(Tape tape, Blind draft) {
      bytes = tape.bytes;
      size = tape.size;
      next = 0;
      fault = NO_FAULT;
      int items = 0;
      boolean more = true;
      advance();
      for (int i = 0; i <= size && more && fault == NO_FAULT; i++) {
        readItem(draft);
        items++;
        more = token == SEMICOLON;
        if (more) {
          advance();
        } else if (token != END) {
          fail();
        }
      }
      return fault == NO_FAULT ? items : -1 - fault;
    }

    private void readItem(Blind draft) {
      int kind = kindTold();
      if (kind >= 0) {
        readPull(draft, kind);
      } else if (isWord("knot")) {
        readRule(draft, KNOT);
      } else if (isWord("slip")) {
        readRule(draft, SLIP);
      } else if (isWord("wind")) {
        readRule(draft, WIND);
      } else if (isWord("curtain")) {
        readRule(draft, CURTAIN);
      } else if (isWord("chair")) {
        readRule(draft, CHAIR);
      } else if (isWord("sun")) {
        advance();
        int hour = number(0, HOURS - 1);
        draft.suns[hour] = number(0, TOP);
      } else if (isWord("up")) {
        advance();
        draft.l = number(0, TOP);
        draft.r = number(0, TOP);
      } else {
        fail();
      }
    }

    private void readPull(Blind draft, int kind) {
      if (draft.pulls >= MOST_PULLS) {
        fail();
        return;
      }
      advance();
      int by = BY_AT_FIRST;
      if (isWord("by")) {
        advance();
        by = number(TRAIT_LEAST[1], TRAIT_MOST[1]);
      }
      int lean = LEAN_AT_FIRST;
      if (isWord("lean")) {
        advance();
        lean = number(TRAIT_LEAST[2], TRAIT_MOST[2]);
      }
      draft.addPull(kind, by, lean);
    }

    private void readRule(Blind draft, int what) {
      advance();
      draft.rules[what] = number(RULE_LEAST[what], RULE_MOST[what]);
    }

    /**
     * The number that stands here, perhaps behind a minus if it may be below 0; 0 with a fault, so
     * that it may be an index all the same.
     */
    private int number(int least, int most) {
      boolean minus = least < 0 && token == MINUS;
      if (minus) {
        advance();
      }
      if (token != NUMBER || value > most) {
        fail();
        return 0;
      }
      int told = minus ? -value : value;
      advance();
      return told;
    }

    private int kindTold() {
      for (int kind = 0; kind < KINDS; kind++) {
        if (isWord(kindWord(kind))) {
          return kind;
        }
      }
      return -1;
    }

    private static String kindWord(int kind) {
      switch (kind) {
        case EVEN:
          return "even";
        case SLANTING:
          return "slanting";
        case SLIPPING:
          return "slipping";
        case FANNED:
          return "fanned";
        case CAUGHT:
          return "caught";
        case JAMMED:
          return "jammed";
        default:
          return "pull";
      }
    }

    private boolean isWord(String word) {
      if (token != WORD || next - start != word.length()) {
        return false;
      }
      for (int i = 0; i < word.length() && start + i < size; i++) {
        if (bytes[start + i] != word.charAt(i)) {
          return false;
        }
      }
      return true;
    }

    private void fail() {
      if (fault == NO_FAULT) {
        fault = start;
      }
    }

    /** To the next token; the end of the tape is one, too, and begins behind the last byte. */
    private void advance() {
      while (next < size && bytes[next] == ' ') {
        next++;
      }
      start = next;
      if (next >= size) {
        token = END;
      } else if (isLetter(bytes[next])) {
        token = WORD;
        while (next < size && isLetter(bytes[next])) {
          next++;
        }
      } else if (isDigit(bytes[next])) {
        token = NUMBER;
        value = 0;
        while (next < size && isDigit(bytes[next])) {
          value = Math.min(TOO_MUCH, value * 10 + bytes[next] - '0');
          next++;
        }
      } else {
        token = signToken(bytes[next]);
        next++;
      }
    }

    private static int signToken(int sign) {
      if (sign == ';') {
        return SEMICOLON;
      }
      return sign == '-' ? MINUS : OTHER;
    }

    private static boolean isLetter(int sign) {
      return sign >= 'a' && sign <= 'z';
    }

    private static boolean isDigit(int sign) {
      return sign >= '0' && sign <= '9';
    }
  }

  private static final class Sheet {
    final int[] numbers = new int[MOST_NUMBERS];
    int bits = 0;
    int size = 0;

    boolean isMissing() {
      return bits == 0;
    }

    void lay(int newBits, int n) {
      bits = newBits;
      size = newBits == 0 ? 0 : n;
      Arrays.fill(numbers, 0);
    }

    void put(int i, int v) {
      if (bits == 8) {
        numbers[i] = (byte) v;
      } else if (bits == 16) {
        numbers[i] = (short) v;
      } else {
        numbers[i] = v;
      }
    }

    /** If it has n numbers from there on. */
    boolean has(int from, int n) {
      return from >= 0 && n >= 0 && from <= size && n <= size - from;
    }

    /** If number i, where there is one, tells this height or any. */
    boolean allows(int i, int height) {
      return i >= size || numbers[i] == ANY || numbers[i] == height;
    }
  }
}
