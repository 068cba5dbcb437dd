import java.lang.reflect.Method;
import java.lang.reflect.Modifier;
import java.util.ArrayList;
import java.util.List;

/** Drawn calls with whatever arguments: none throws, and the same calls give the same answers. */
public final class NeverThrowsTest {
  private static final int[] EDGES = {Integer.MIN_VALUE, Integer.MIN_VALUE + 1, -4096, -6, -2, -1,
      0, 1, 2, 3, 4, 5, 6, 7, 8, 11, 12, 13, 15, 16, 20, 21, 31, 32, 33, 59, 60, 61, 63, 64, 4095,
      4096, 1600, 2000000000, 2000000001, Integer.MAX_VALUE - 1, Integer.MAX_VALUE};

  private static List<Method> face() {
    List<Method> face = new ArrayList<>();
    for (Method method : ProvedTable.class.getDeclaredMethods()) {
      if (Modifier.isPublic(method.getModifiers())) {
        face.add(method);
      }
    }
    face.sort((a, b) -> a.getName().compareTo(b.getName()));
    return face;
  }

  private static long run(int seed, List<Method> face) throws ReflectiveOperationException {
    Texts draw = new Texts(seed);
    ProvedTable x = new ProvedTable();
    String text = seed % 5 == 0 ? "" : draw.table(12, 12, 5);
    long answers = Texts.tell(x, text);
    for (int i = Texts.callsToTell(text); i < Checks.MOST_CALLS; i++) {
      Method method = face.get(draw.below(face.size()));
      boolean isRare = List.of("table", "back", "drops").contains(method.getName());
      if (isRare && draw.below(8) > 0) {
        continue;
      }
      Object[] arguments = new Object[method.getParameterCount()];
      for (int j = 0; j < arguments.length; j++) {
        int number = draw.below(2) == 0 ? draw.below(5) : EDGES[draw.below(EDGES.length)];
        boolean isLong = method.getParameterTypes()[j] == long.class;
        arguments[j] = isLong ? (Object) ((long) number << draw.below(33)) : number;
      }
      answers = answers * 31 + (int) method.invoke(x, arguments);
    }
    return answers;
  }

  public static void main(String[] args) throws ReflectiveOperationException {
    List<Method> face = face();
    for (int seed = 0; seed < 300; seed++) {
      if (run(seed, face) != run(seed, face)) {
        System.out.println("run " + seed + " does not answer the same twice");
        System.exit(1);
      }
    }
  }
}
