import java.lang.reflect.Field;
import java.lang.reflect.Method;
import java.lang.reflect.Modifier;
import java.util.ArrayList;
import java.util.List;
import java.util.TreeSet;

/** The class has the document's face and nothing else that can be seen from outside. */
public final class FaceTest {
  private static final String FACE = "feed IIIII end I table fault I claim II holds I step II "
      + "guest II salted follows I counter I entails II alike I falsity I proved wrong covered "
      + "reads I why I reached I eats II used II same III shortest I proof I bite II proofs I "
      + "needs I rests I menu I course I dishes I takes II who I host I lemma I brings I strength I "
      + "together II fewest I team I claims II outcome II kitchen II when II shares II busy III duel "
      + "move lasts idle core cored likely II ask leaves unlike falls I spare I spared I salt II "
      + "ate I borrowed II lent II adds II drops teach III drawn I feast II mean IIII count I image I "
      + "back I row III write IIJ paste IIIII";

  public static void main(String[] args) throws ReflectiveOperationException {
    List<String> faults = new ArrayList<>();
    TreeSet<String> due = new TreeSet<>();
    String[] words = FACE.split(" ");
    for (int i = 0; i < words.length; i++) {
      boolean hasArguments = i + 1 < words.length && words[i + 1].matches("[IJ]+");
      due.add(words[i] + " " + (hasArguments ? words[++i] : ""));
    }
    TreeSet<String> names = new TreeSet<>();
    TreeSet<String> found = new TreeSet<>();
    for (Method method : ProvedTable.class.getDeclaredMethods()) {
      if (!Modifier.isPrivate(method.getModifiers())) {
        StringBuilder kinds = new StringBuilder(method.getName()).append(' ');
        for (Class<?> type : method.getParameterTypes()) {
          kinds.append(type == int.class ? "I" : type == long.class ? "J" : "?");
        }
        found.add(kinds.toString());
        names.add(method.getName());
        if (method.getModifiers() != Modifier.PUBLIC || method.getReturnType() != int.class) {
          faults.add("not as the face has it: " + method);
        }
      }
    }
    if (!found.equals(due) || due.size() != 76) {
      faults.add("the methods are " + found);
    }
    for (Field field : ProvedTable.class.getDeclaredFields()) {
      boolean isNone = field.getName().equals("NONE") && Modifier.isPublic(field.getModifiers())
          && Modifier.isStatic(field.getModifiers()) && field.getType() == int.class;
      if (!isNone && !Modifier.isPrivate(field.getModifiers())) {
        faults.add("can be seen: " + field);
      }
      if (Modifier.isStatic(field.getModifiers()) && !Modifier.isFinal(field.getModifiers())) {
        faults.add("not final: " + field);
      }
    }
    if (ProvedTable.NONE != -1 || !Modifier.isFinal(ProvedTable.class.getModifiers())) {
      faults.add("NONE or the class itself");
    }
    List<Class<?>> all = new ArrayList<>(List.of(ProvedTable.class.getDeclaredClasses()));
    all.add(ProvedTable.class);
    for (Class<?> one : all) {
      if (one != ProvedTable.class && !Modifier.isStatic(one.getModifiers())) {
        faults.add("not static: " + one);
      }
      for (Method method : one.getDeclaredMethods()) {
        if (names.contains(method.getName()) && !Modifier.isPublic(method.getModifiers())) {
          faults.add("bears the name of a public one: " + method);
        }
        if (method.getParameterCount() > 7) {
          faults.add("too many parameters: " + method);
        }
      }
      int fields = 0;
      for (Field field : one.getDeclaredFields()) {
        fields += Modifier.isStatic(field.getModifiers()) ? 0 : 1;
      }
      if (fields > 20) {
        faults.add("too many fields: " + one);
      }
    }
    if (all.size() > 12) {
      faults.add("too many classes");
    }
    for (String fault : faults) {
      System.out.println(fault);
    }
    if (!faults.isEmpty()) {
      System.exit(1);
    }
  }
}
