import java.lang.reflect.Method;
import java.lang.reflect.Modifier;
import java.util.ArrayList;
import java.util.List;

/** Runs of drawn calls, each answer compared with the Oracle's. */
public final class OracleTest {
  private static final int MOST_WRONG_TOLD = 20;
  private static int wrong = 0;
  private static int compared = 0;

  private final ProvedTable x = new ProvedTable();
  private final Oracle oracle = new Oracle();
  private final List<String> told = new ArrayList<>();
  private final Texts draw;
  private int calls = 0;

  private OracleTest(long seed) {
    draw = new Texts(seed);
  }

  private boolean isUsedUp() {
    return calls >= Checks.MOST_CALLS;
  }

  private void both(Method method, Object... arguments) throws ReflectiveOperationException {
    if (isUsedUp()) {
      return;
    }
    calls++;
    Method twin = Oracle.class.getMethod(method.getName(), method.getParameterTypes());
    long got = ((Number) method.invoke(x, arguments)).longValue();
    long want = ((Number) twin.invoke(oracle, arguments)).longValue();
    told.add(method.getName() + java.util.Arrays.toString(arguments) + " = " + got);
    compared++;
    if (got != want) {
      wrong++;
      if (wrong <= MOST_WRONG_TOLD) {
        System.out.println(String.join("\n", told));
        System.out.println("due is " + want + "\n");
      }
    }
  }

  private void named(String name, Object... arguments) throws ReflectiveOperationException {
    for (Method method : ProvedTable.class.getDeclaredMethods()) {
      if (Modifier.isPublic(method.getModifiers()) && method.getName().equals(name)) {
        both(method, arguments);
        return;
      }
    }
    throw new NoSuchMethodException(name);
  }

  private void tell(String text) throws ReflectiveOperationException {
    told.add(text);
    int[] f = Texts.numbersOf(text);
    for (int i = 0; i < f.length; i += 5) {
      named("feed", f[i], f[i + 1], f[i + 2], f[i + 3], f[i + 4]);
    }
    named("end", text.length());
    named("table");
    named("fault", 0);
    named("fault", 1);
    for (int what = -1; what <= 9; what++) {
      named("count", what);
    }
  }

  /** What each argument is: a claim, step, guest, slot, bit, what, set of claims, of guests. */
  private static String kindsOf(String name) {
    switch (name) {
      case "claim":
      case "bite":
        return "cw";
      case "step":
        return "sw";
      case "guest":
        return "gw";
      case "holds":
      case "follows":
      case "counter":
      case "alike":
      case "shortest":
      case "proof":
      case "proofs":
      case "needs":
      case "who":
      case "fewest":
      case "team":
      case "falls":
        return "c";
      case "entails":
        return "cc";
      case "falsity":
      case "rests":
        return "s";
      case "reads":
      case "why":
      case "reached":
      case "ate":
        return "l";
      case "eats":
      case "borrowed":
      case "lent":
        return "lg";
      case "used":
      case "when":
      case "shares":
        return "lc";
      case "same":
        return "llc";
      case "menu":
      case "course":
      case "dishes":
      case "lemma":
      case "brings":
        return "g";
      case "takes":
        return "gC";
      case "host":
      case "strength":
        return "G";
      case "together":
        return "Gc";
      case "claims":
      case "outcome":
      case "likely":
      case "salt":
        return "cb";
      case "kitchen":
        return "lw";
      case "busy":
        return "lgb";
      case "spare":
      case "spared":
        return "C";
      case "adds":
        return "cC";
      case "teach":
        return "gsb";
      case "drawn":
        return "x";
      case "feast":
        return "xg";
      case "mean":
        return "xngb";
      case "count":
        return "n";
      case "image":
      case "back":
        return "w";
      case "row":
        return "lwn";
      case "write":
        return "lns";
      case "paste":
        return "lnlnn";
      case "fault":
        return "b";
      case "end":
        return "n";
      case "feed":
        return "nnnnn";
      default:
        return "";
    }
  }

  private int argument(char kind) {
    int slip = draw.below(100);
    if (slip == 0) {
      return draw.below(2) == 0 ? Integer.MIN_VALUE : Integer.MAX_VALUE;
    }
    if (slip < 4) {
      return draw.below(16) - 2;
    }
    switch (kind) {
      case 'c':
        return draw.below(oracle.count(3) + (slip < 10 ? 2 : 1)) - (slip < 8 ? 1 : 0);
      case 's':
        return draw.below(oracle.count(4) + 1);
      case 'g':
        return draw.below(oracle.count(5) + (slip < 20 ? 1 : 0) + (oracle.count(5) == 0 ? 1 : 0));
      case 'l':
        return draw.below(slip < 10 ? 5 : 4);
      case 'b':
        return draw.below(slip < 10 ? 3 : 2);
      case 'w':
        return draw.below(slip < 10 ? 5 : 3);
      case 'C':
        int most = slip < 50 ? 1 << oracle.count(3) : 8;
        return (draw.below(most) & draw.below(most)) + (slip < 6 ? most : 0);
      case 'G':
        return draw.below((1 << oracle.count(5)) + (slip < 10 ? 1 : 0));
      case 'x':
        return slip < 50 ? draw.below(100) : draw.below(2000000020);
      default:
        return draw.below(slip < 40 ? 22 : 4);
    }
  }

  /** A row of STEPS, of pairs, or of CLAIMS; most of the first two go for a while. */
  private void fillRow() throws ReflectiveOperationException {
    int slot = draw.below(4);
    int kind = draw.below(3);
    int n = kind == 1 ? draw.below(8) * 2 + draw.below(15) / 14 : draw.below(kind == 2 ? 4 : 7);
    named("row", slot, draw.below(20) == 0 ? draw.below(4) : 0, n);
    for (int i = 0; i < n; i++) {
      boolean isGoing = false;
      for (int attempt = draw.below(4); attempt < 8 && !isGoing; attempt++) {
        if (kind == 0) {
          named("write", slot, i, (long) argument('s'));
          isGoing = oracle.reads(slot) > i;
        } else if (kind == 1) {
          named("write", slot, i, (long) argument(i % 2 == 0 ? 'g' : 's'));
          isGoing = i % 2 == 0 ? draw.below(3) == 0 : oracle.kitchen(slot, 0) > i / 2;
        } else {
          int claim = argument('c');
          named("write", slot, i, (long) claim);
          isGoing = oracle.claim(claim, 1) == 0;
        }
      }
    }
  }

  private void call(Method method) throws ReflectiveOperationException {
    String kinds = kindsOf(method.getName());
    Object[] arguments = new Object[method.getParameterCount()];
    for (int i = 0; i < arguments.length; i++) {
      int number = argument(kinds.charAt(i));
      arguments[i] = method.getParameterTypes()[i] == long.class ? (Object) (long) number : number;
    }
    both(method, arguments);
  }

  private void play(int turns, String text) throws ReflectiveOperationException {
    List<Method> face = new ArrayList<>();
    for (Method method : ProvedTable.class.getDeclaredMethods()) {
      if (Modifier.isPublic(method.getModifiers()) && !method.getName().equals("table")) {
        face.add(method);
      }
    }
    face.sort((a, b) -> a.getName().compareTo(b.getName()));
    tell(text);
    for (int i = 0; i < turns && !isUsedUp(); i++) {
      if (draw.below(8) == 0) {
        fillRow();
      }
      call(face.get(draw.below(face.size())));
    }
  }

  public static void main(String[] args) throws ReflectiveOperationException {
    for (int run = 0; run < 1000; run++) {
      OracleTest test = new OracleTest(run);
      test.play(200, test.draw.table(8, 7, 5));
    }
    for (int run = 1000; run < 1020; run++) {
      OracleTest test = new OracleTest(run);
      test.play(200, test.draw.table(12, 12, 5));
    }
    for (int run = 2000; run < 6000; run++) {
      OracleTest test = new OracleTest(run);
      test.tell(test.draw.spoilt(test.draw.table(12, 12, 5)));
      test.named("salted");
    }
    System.out.println(compared + " answers compared, " + wrong + " are not as due");
    if (wrong != 0) {
      System.exit(1);
    }
  }
}
