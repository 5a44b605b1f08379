import java.lang.reflect.Constructor;
import java.lang.reflect.Field;
import java.lang.reflect.Member;
import java.lang.reflect.Method;
import java.lang.reflect.Modifier;
import java.util.Arrays;
import java.util.Set;
import java.util.TreeSet;

/** The public face: each constant, constructor and method as it is written in the document, and no others. */
public final class SignatureTest {
  private static final Check check = new Check();

  /** Each method answers an int and takes so many of them. */
  private static final String[] FACE = {"feed 5", "end 1", "slip 0", "question 0", "fault 0", "write 1", "take 1",
    "existence 1", "of 2", "has 2", "letter 2", "quarrels 1", "follows 1", "denied 1", "open 1", "idle 1", "least 1",
    "quarrel 1", "calm 1", "hint 1", "between 3", "square 2", "says 4", "all 2", "world 2", "name 3", "pair 3",
    "wrong 3", "derived 3", "by 4", "derive 1", "posit 0", "propose 0", "bound 1", "riddle 2", "drawn 2", "image 1",
    "back 1", "count 1", "status 0"};

  private static boolean isSeen(Member member) {
    return !Modifier.isPrivate(member.getModifiers()) && !member.isSynthetic();
  }

  private static void methods() {
    Set<String> due = new TreeSet<>(Arrays.asList(FACE));
    check.due("methods that are due", due.size(), 40);
    for (Method m : MoodSlips.class.getDeclaredMethods()) {
      if (!isSeen(m)) continue;
      check.due(m.getName() + " is of the face", due.remove(m.getName() + " " + m.getParameterCount()) ? 1 : 0, 1);
      check.due(m.getName() + " is public alone", m.getModifiers(), Modifier.PUBLIC);
      check.due(m.getName() + " answers", m.getReturnType().getName(), "int");
      for (Class<?> type : m.getParameterTypes()) check.due(m.getName() + " takes", type.getName(), "int");
    }
    check.due("methods that are missing", due.toString(), "[]");
  }

  private static void constants() throws ReflectiveOperationException {
    int seen = 0;
    for (Field f : MoodSlips.class.getDeclaredFields()) {
      if (!isSeen(f)) continue;
      seen++;
      check.due("constant", f.getName() + " " + f.getType(), "NONE int");
      check.due("NONE is public static final", f.getModifiers(), Modifier.PUBLIC | Modifier.STATIC | Modifier.FINAL);
      check.due("NONE", f.getInt(null), -1);
    }
    check.due("constants", seen, 1);
  }

  private static void constructors() {
    int seen = 0;
    for (Constructor<?> c : MoodSlips.class.getDeclaredConstructors()) {
      if (!isSeen(c)) continue;
      seen++;
      check.due("the constructor is public", c.getModifiers(), Modifier.PUBLIC);
      check.due("numbers of the constructor", c.getParameterCount(), 0);
    }
    check.due("constructors", seen, 1);
  }

  private static void theClass() {
    check.due("public and final", MoodSlips.class.getModifiers(), Modifier.PUBLIC | Modifier.FINAL);
    check.due("package", MoodSlips.class.getPackageName(), "");
    check.due("above it", MoodSlips.class.getSuperclass().getName(), "java.lang.Object");
    check.due("interfaces", MoodSlips.class.getInterfaces().length, 0);
    for (Class<?> inside : MoodSlips.class.getDeclaredClasses()) {
      int m = inside.getModifiers();
      check.due(inside + " is static", Modifier.isStatic(m) ? 1 : 0, 1);
      check.due(inside + " is not public or protected", Modifier.isPublic(m) || Modifier.isProtected(m) ? 1 : 0, 0);
    }
  }

  public static void main(String[] args) throws ReflectiveOperationException {
    theClass();
    constants();
    constructors();
    methods();
    check.finish();
  }
}
