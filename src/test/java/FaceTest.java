import java.lang.reflect.Constructor;
import java.lang.reflect.Field;
import java.lang.reflect.Method;
import java.lang.reflect.Modifier;
import java.util.Arrays;
import java.util.TreeSet;

/** The class has the document's face and no other member that is seen from outside. */
public final class FaceTest {
  private static final String[] FACE = {
    "abbot(int)", "all(int,int)", "back()", "bridge(int,int)", "cart(int,int,int)", "close()",
    "count(int)", "days(int)", "delays(int)", "enter(int,int,int,boolean)", "fault()",
    "goer(int,int)", "guard(int,boolean)", "keep()", "lay()", "oak(int)", "planks(int,int)",
    "put(int,int)", "rumour(int,int,int,int)", "sent(int,int,int,int)", "span(int,int,int)",
    "undo()", "watch(int)", "where(int,int)", "wipe()", "write(int)", "year(int,int,int)"
  };

  public static void main(String[] args) {
    Check check = new Check("FaceTest");
    check.due("BAD", PennyPlanks.BAD, -1);
    check.due("NO", PennyPlanks.NO, -2);
    check.due("FULL", PennyPlanks.FULL, -3);
    check.due("NONE", PennyPlanks.NONE, -4);
    check.due("public final", PennyPlanks.class.getModifiers(), Modifier.PUBLIC | Modifier.FINAL);
    checkMethods(check);
    checkFields(check);
    Constructor<?>[] makers = PennyPlanks.class.getDeclaredConstructors();
    check.due("constructors", makers.length, 1);
    check.due("its parameters", makers[0].getParameterCount(), 0);
    check.due("its modifiers", makers[0].getModifiers(), Modifier.PUBLIC);
    check.end();
  }

  private static void checkMethods(Check check) {
    TreeSet<String> seen = new TreeSet<>();
    TreeSet<String> hidden = new TreeSet<>();
    for (Method method : PennyPlanks.class.getDeclaredMethods()) {
      if (Modifier.isPrivate(method.getModifiers())) hidden.add(method.getName());
      else seen.add(signature(method));
    }
    TreeSet<String> face = new TreeSet<>(Arrays.asList(FACE));
    check.due("methods " + seen, seen.equals(face) ? 1 : 0, 1);
    for (Method method : PennyPlanks.class.getMethods()) {
      check.due("private " + method.getName(), hidden.contains(method.getName()) ? 1 : 0, 0);
      if (method.getDeclaringClass() == PennyPlanks.class) {
        check.due("int " + method, method.getReturnType() == int.class ? 1 : 0, 1);
      }
    }
  }

  private static String signature(Method method) {
    StringBuilder text = new StringBuilder(method.getName()).append('(');
    for (Class<?> type : method.getParameterTypes()) {
      if (text.charAt(text.length() - 1) != '(') text.append(',');
      text.append(type.getName());
    }
    return text.append(')').toString();
  }

  private static void checkFields(Check check) {
    int open = 0;
    for (Field field : PennyPlanks.class.getDeclaredFields()) {
      if (!Modifier.isPrivate(field.getModifiers())) open++;
      if (Modifier.isStatic(field.getModifiers())) {
        check.due("final " + field, Modifier.isFinal(field.getModifiers()) ? 1 : 0, 1);
      }
    }
    check.due("constants", open, 4);
  }
}
