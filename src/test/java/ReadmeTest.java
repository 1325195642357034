import java.io.IOException;
import java.net.URL;
import java.net.URLClassLoader;
import java.nio.file.Files;
import java.nio.file.Path;
import java.util.List;
import java.util.regex.Matcher;
import java.util.regex.Pattern;
import javax.tools.JavaCompiler;
import javax.tools.ToolProvider;

/** The example of README.md answers what stands behind its calls. */
public final class ReadmeTest {
  private static final Due due = new Due("ReadmeTest");
  private static final Pattern CALL = Pattern.compile("(x\\..*);\\s+// (-?\\d+|HELD)(:.*)?");
  private static final String NAME = "ReadmeExample";

  public static void main(String[] args) throws IOException, ReflectiveOperationException {
    String example = example(Files.readAllLines(Path.of("README.md")));
    Path work = Files.createTempDirectory("readme");
    try {
      run(example, work);
    } finally {
      Files.deleteIfExists(work.resolve(NAME + ".java"));
      Files.deleteIfExists(work.resolve(NAME + ".class"));
      Files.deleteIfExists(work);
    }
    due.end();
  }

  /** What the example calls to have an answer looked at. */
  public static void answers(String call, int got, int want) {
    due.is(call, got, want);
  }

  /** A class of the lines between the first java mark and the mark behind it. */
  private static String example(List<String> lines) {
    StringBuilder code = new StringBuilder("public final class " + NAME + " { public static void run() {\n");
    int calls = 0;
    int from = lines.indexOf("```java");
    for (int i = from + 1; i < lines.size() && !lines.get(i).equals("```"); i++) {
      Matcher call = CALL.matcher(lines.get(i));
      if (call.matches()) {
        calls++;
        String want = call.group(2).equals("HELD") ? "GlulxStrings.HELD" : call.group(2);
        code.append("ReadmeTest.answers(\"").append(call.group(1)).append("\", ").append(call.group(1)).append(", ")
            .append(want).append(");\n");
      } else {
        code.append(lines.get(i)).append('\n');
      }
    }
    due.is("README.md has calls with answers", calls > 10 ? 1 : 0, 1);
    return code.append("} }\n").toString();
  }

  private static void run(String example, Path work) throws IOException, ReflectiveOperationException {
    Path file = work.resolve(NAME + ".java");
    Files.writeString(file, example);
    JavaCompiler compiler = ToolProvider.getSystemJavaCompiler();
    String here = System.getProperty("java.class.path");
    int compiled = compiler.run(null, null, null, "-cp", here, "-d", work.toString(), file.toString());
    due.is("compiling the example", compiled, 0);
    if (compiled != 0) {
      return;
    }
    try (URLClassLoader loader = new URLClassLoader(new URL[] {work.toUri().toURL()})) {
      loader.loadClass(NAME).getMethod("run").invoke(null);
    }
  }
}
