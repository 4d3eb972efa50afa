import java.lang.reflect.Method;
import java.util.Arrays;
import java.util.HashMap;
import java.util.List;
import java.util.Map;
import java.util.Set;
import java.util.TreeMap;

/** One call of an act by its name. */
record Call(String act, int... args) {
  private static final Map<String, Method> ACTS = new HashMap<>();
  private static final Set<String> TELLING_ONLY = Set.of("of", "ruled", "now", "wear", "after", "sign", "stays", "often",
      "knot", "kindFor", "fewest", "first", "states", "worst", "mends", "costs", "hour", "eyes", "best", "where", "holds",
      "lasts", "fits", "slips", "as", "judge", "count", "status");

  static {
    for (Method method : UpOneSide.class.getMethods()) {
      if (method.getDeclaringClass() == UpOneSide.class) {
        ACTS.put(method.getName(), method);
      }
    }
  }

  /** How many arguments each act takes, by its name. */
  static Map<String, Integer> acts() {
    Map<String, Integer> acts = new TreeMap<>();
    ACTS.forEach((name, method) -> acts.put(name, method.getParameterCount()));
    return acts;
  }

  static UpOneSide replayed(List<Call> calls) {
    UpOneSide x = new UpOneSide();
    for (Call call : calls) {
      call.on(x);
    }
    return x;
  }

  long on(UpOneSide x) {
    Method method = ACTS.get(act);
    if (method == null || method.getParameterCount() != args.length) {
      throw new IllegalArgumentException("no such act: " + this);
    }
    try {
      return ((Number) method.invoke(x, Arrays.stream(args).boxed().toArray())).longValue();
    } catch (ReflectiveOperationException e) {
      throw new IllegalStateException("in " + this, e);
    }
  }

  /** If it changes nothing whatever it answers. */
  boolean tellsOnly() {
    return TELLING_ONLY.contains(act);
  }

  @Override
  public String toString() {
    String all = Arrays.toString(args);
    return act + "(" + all.substring(1, all.length() - 1) + ")";
  }
}
