import java.lang.reflect.Constructor;
import java.lang.reflect.Field;
import java.lang.reflect.Method;
import java.lang.reflect.Modifier;
import java.util.Arrays;
import java.util.HashSet;
import java.util.Set;
import java.util.TreeSet;
import java.util.stream.Collectors;

/** The public face of the document, no other member that others see, no public name used inside. */
public final class FaceTest {
  private static final String[] FACE = {
    "int feed(int,int,int,int,int)", "int back(int)", "int word()", "int rules()",
    "boolean line(int,int)", "boolean cut(int,int)", "boolean tone(int,int)", "boolean hush(int)",
    "int turn(int,int)", "boolean grow(boolean,boolean)", "boolean shrink()",
    "boolean mark(int,boolean,boolean)", "int does(int)", "int derive(int)", "int undo()",
    "int has(int,int)", "int toneAt(int,int,int)", "int syllableAt(int,int,int)", "int linesOf(int,int)",
    "int open(int,int,int)", "int spell(int,int)", "int rule(int,int)", "int done(int,int)",
    "int exchanged(int)", "int needed()", "int orders(int)", "int sources(int)", "int source(int)",
    "int count(int)",
  };

  public static void main(String[] args) throws Exception {
    Class<?> face = ToneLines.class;
    Check.due("public and final", face.getModifiers(), Modifier.PUBLIC | Modifier.FINAL);
    Set<String> seen = new TreeSet<>();
    Set<String> names = new HashSet<>();
    for (Method m : face.getDeclaredMethods()) {
      if (Modifier.isPrivate(m.getModifiers())) continue;
      Check.due(m + " is public and no more", m.getModifiers(), Modifier.PUBLIC);
      seen.add(told(m));
      names.add(m.getName());
    }
    Check.due("the methods", seen.toString(), new TreeSet<>(Arrays.asList(FACE)).toString());
    for (Field f : face.getDeclaredFields()) {
      boolean visible = !Modifier.isPrivate(f.getModifiers());
      Check.due(f + " is seen", visible, f.getName().equals("NONE"));
    }
    int constant = Modifier.PUBLIC | Modifier.STATIC | Modifier.FINAL;
    Check.due("NONE", face.getDeclaredField("NONE").getModifiers(), constant);
    Check.due("constructors", face.getDeclaredConstructors().length, 1);
    for (Constructor<?> c : face.getDeclaredConstructors()) {
      Check.due(c + " is public", c.getModifiers() == Modifier.PUBLIC && c.getParameterCount() == 0, true);
    }
    for (Class<?> inner : face.getDeclaredClasses()) {
      Check.due(inner + " is static", Modifier.isStatic(inner.getModifiers()), true);
      for (Method m : inner.getDeclaredMethods()) {
        Check.due(m + " bears a public name", names.contains(m.getName()), false);
      }
    }
    for (Method m : face.getDeclaredMethods()) {
      boolean hides = Modifier.isPrivate(m.getModifiers()) && names.contains(m.getName());
      Check.due(m + " bears a public name", hides, false);
    }
    Check.end("FaceTest");
  }

  private static String told(Method m) {
    String of = Arrays.stream(m.getParameterTypes()).map(Class::getName).collect(Collectors.joining(","));
    return m.getReturnType().getName() + " " + m.getName() + "(" + of + ")";
  }
}
