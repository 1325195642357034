import java.io.IOException;
import java.lang.reflect.Constructor;
import java.lang.reflect.Field;
import java.lang.reflect.Method;
import java.lang.reflect.Modifier;
import java.nio.file.Files;
import java.nio.file.Path;
import java.util.Set;
import java.util.TreeSet;
import java.util.regex.Matcher;
import java.util.regex.Pattern;

/** The document's face, and those rules of LANGUAGE.md that can be seen without reading the code. */
public final class LanguageTest {
  private static final Due due = new Due("LanguageTest");
  private static final String[] FACE = {
    "feed(int,long)", "load(int)", "border(int)", "byteAt(int)", "table(int)", "system(int,int)",
    "print(int,int)", "number(int,int)", "call(int,int)", "resume(int)", "stop()", "jobs()",
    "job(int,int)", "at(int)", "clear()", "told(int)", "sign(int)", "piece(int)", "text()",
    "tree(int)", "laid(int,int)", "bits(int)", "forget()",
  };

  public static void main(String[] args) throws IOException {
    face();
    classes();
    source(Files.readString(Path.of("src/main/java/GlulxStrings.java")));
    due.end();
  }

  private static void no(String what, boolean is) {
    due.is(what, is ? 1 : 0, 0);
  }

  private static void face() {
    Class<?> c = GlulxStrings.class;
    no("the class is not public and final", !Modifier.isPublic(c.getModifiers()) || !Modifier.isFinal(c.getModifiers()));
    Set<String> want = new TreeSet<>(Set.of(FACE));
    for (Method m : c.getDeclaredMethods()) {
      if (!Modifier.isPrivate(m.getModifiers())) {
        no("a method that the face has not: " + m, !want.remove(signature(m)) || m.getReturnType() != int.class);
      }
    }
    no("methods that lack: " + want, !want.isEmpty());
    Set<String> constants = new TreeSet<>(Set.of("NONE", "BAD", "NO", "FULL", "HELD"));
    for (Field f : c.getDeclaredFields()) {
      if (!Modifier.isPrivate(f.getModifiers())) {
        no("a field that the face has not: " + f, !constants.remove(f.getName()));
      }
    }
    no("constants that lack: " + constants, !constants.isEmpty());
    Constructor<?>[] made = c.getDeclaredConstructors();
    no("not one public constructor", made.length != 1 || !Modifier.isPublic(made[0].getModifiers()));
  }

  private static String signature(Method m) {
    StringBuilder s = new StringBuilder(m.getName()).append('(');
    for (Class<?> p : m.getParameterTypes()) {
      s.append(s.charAt(s.length() - 1) == '(' ? "" : ",").append(p.getName());
    }
    return s.append(')').toString();
  }

  private static void classes() {
    Set<String> names = new TreeSet<>();
    for (String m : FACE) {
      names.add(m.substring(0, m.indexOf('(')));
    }
    Class<?>[] inside = GlulxStrings.class.getDeclaredClasses();
    no("more than twelve classes", inside.length + 1 > 12);
    for (Class<?> c : inside) {
      no(c + " is not static", !Modifier.isStatic(c.getModifiers()));
      no(c + " is public or protected", Modifier.isPublic(c.getModifiers()) || Modifier.isProtected(c.getModifiers()));
      int fields = 0;
      for (Field f : c.getDeclaredFields()) {
        fields += Modifier.isStatic(f.getModifiers()) ? 0 : 1;
        no(f + " is static and not final", Modifier.isStatic(f.getModifiers()) && !Modifier.isFinal(f.getModifiers()));
      }
      no(c + " has more than twenty fields", fields > 20);
      for (Method m : c.getDeclaredMethods()) {
        no(m + " bears the name of a public one", names.contains(m.getName()));
        no(m + " has more than seven parameters", m.getParameterCount() > 7);
      }
    }
  }

  private static void source(String text) {
    String code = text.replaceAll("(?s)/\\*.*?\\*/", "").replaceAll("//[^\n]*", "").replaceAll("\"[^\"]*\"", "\"\"");
    String[] words = {"throw", "throws", "try", "catch", "finally", "synchronized", "assert", "package", "native",
      "volatile", "transient", "var", "Object", "Exception", "Thread", "Random", "double", "float"};
    for (String word : words) {
      no("the word " + word, Pattern.compile("\\b" + word + "\\b").matcher(code).find());
    }
    no("a lambda or a method reference", code.contains("->") || code.contains("::"));
    Matcher imports = Pattern.compile("import ([^;]+);").matcher(code);
    while (imports.find()) {
      no("import " + imports.group(1), !imports.group(1).equals("java.util.Arrays"));
    }
  }
}
