import java.io.IOException;
import java.util.ArrayList;
import java.util.HashMap;
import java.util.List;
import java.util.Map;

/**
 * Each act with all mixtures of small, large and greatest arguments, in a room without PULLS, in a rich and
 * in a full one, beside the plain model: no call throws, and all answers are the same.
 */
public final class ExtremesTest {
  private static final int MOST = Integer.MAX_VALUE;
  private static final int LEAST = Integer.MIN_VALUE;
  private static final int[] ALL = {LEAST, LEAST + 1, -1000001, -31, -30, -10, -9, -2, -1, 0, 1, 2, 3, 4, 5, 6, 7, 8, 9, 10,
      15, 16, 19, 20, 21, 23, 24, 30, 31, 32, 39, 40, 41, 59, 60, 61, 99, 100, 200, 201, 255, 65535, MOST - 1, MOST};
  private static final int[] MANY = {LEAST, -31, -10, -1, 0, 1, 2, 3, 6, 7, 8, 16, 20, 32, 40, 41, 60, 61, MOST};
  private static final int[] FEW = {LEAST, -1, 0, 1, 2, 3, 40, MOST};

  private static int calls = 0;
  private static int wrong = 0;

  private final List<Call> room;
  private UpOneSide object;
  private PlainModel model;
  private int used;

  private ExtremesTest(List<Call> room) {
    this.room = room;
    begin();
  }

  private void begin() {
    object = Call.replayed(room);
    model = new PlainModel();
    for (Call call : room) {
      model.call(call.act(), call.args());
    }
    used = room.size();
  }

  private void compare(Call call) {
    if (used == Twin.MOST_CALLS) {
      begin();
    }
    used++;
    calls++;
    long got = call.on(object);
    long want = model.call(call.act(), call.args());
    if (got != want) {
      wrong++;
      System.out.println(call + " answered " + got + ", due is " + want + ", call " + used);
    }
  }

  private static int[] values(int arguments) {
    return arguments > 3 ? FEW : arguments == 3 ? MANY : ALL;
  }

  private void compareAll(String act, int arguments) {
    int[] values = values(arguments);
    int[] at = new int[arguments];
    boolean more = true;
    while (more) {
      int[] args = new int[arguments];
      for (int i = 0; i < arguments; i++) {
        args[i] = values[at[i]];
      }
      compare(new Call(act, args));
      int turned = 0;
      while (turned < arguments && ++at[turned] == values.length) {
        at[turned++] = 0;
      }
      more = turned < arguments;
    }
  }

  public static void main(String[] args) throws IOException {
    Map<String, List<String>> rooms = new HashMap<>();
    EdgesTest.edges(rooms);
    List<List<Call>> begins = new ArrayList<>();
    begins.add(List.of());
    begins.add(EdgeRun.calls(rooms.get("rich")));
    begins.add(EdgeRun.calls(rooms.get("full")));
    for (List<Call> begin : begins) {
      Call.acts().forEach((act, arguments) -> new ExtremesTest(begin).compareAll(act, arguments));
    }
    System.out.println(calls + " calls, " + wrong + " not as due");
    if (wrong != 0 || calls == 0) {
      System.exit(1);
    }
  }
}
