import java.io.ByteArrayOutputStream;
import java.io.File;
import java.io.IOException;
import java.io.PrintStream;
import java.net.URL;
import java.net.URLClassLoader;
import java.nio.file.Files;
import java.nio.file.Path;
import java.util.Arrays;
import java.util.Set;
import java.util.TreeSet;
import java.util.regex.Matcher;
import java.util.regex.Pattern;
import javax.tools.ToolProvider;

/** README.md: its program compiles and prints what stands there, and its table has every test. */
public final class ReadmeTest {
  private static final Path README = Path.of("README.md");
  private static final Path TESTS = Path.of("src/test/java");

  public static void main(String[] args) throws IOException, ReflectiveOperationException {
    String text = Files.readString(README);
    Check.sentence("README.md, Use", "A whole greeting, as Greeting.java");
    Check.sameText("prints", printed(block(text, "java")), block(text, "text"));
    Check.sentence("README.md, Tests", "test | what it looks at");
    Check.sameText("the table has", inTable(text).toString(), inFolder().toString());
    Check.close();
  }

  private static String block(String text, String kind) {
    Matcher found = Pattern.compile("```" + kind + "\n(.*?)```", Pattern.DOTALL).matcher(text);
    return found.find() ? found.group(1) : "no block of " + kind;
  }

  private static String printed(String program) throws IOException, ReflectiveOperationException {
    Path folder = Files.createTempDirectory("readme");
    try {
      Path file = Files.writeString(folder.resolve("Greeting.java"), program);
      String[] options = {"-cp", System.getProperty("java.class.path"), "-d", folder.toString(), file.toString()};
      if (ToolProvider.getSystemJavaCompiler().run(null, null, null, options) != 0) {
        return "cannot be compiled";
      }
      return printedBy(folder);
    } finally {
      remove(folder);
    }
  }

  private static String printedBy(Path folder) throws IOException, ReflectiveOperationException {
    PrintStream usual = System.out;
    ByteArrayOutputStream bytes = new ByteArrayOutputStream();
    try (URLClassLoader loader = new URLClassLoader(new URL[] {folder.toUri().toURL()})) {
      System.setOut(new PrintStream(bytes, true));
      Object arguments = new String[0];
      loader.loadClass("Greeting").getMethod("main", String[].class).invoke(null, arguments);
    } finally {
      System.setOut(usual);
    }
    return bytes.toString().replace(System.lineSeparator(), "\n");
  }

  private static void remove(Path folder) throws IOException {
    for (File file : folder.toFile().listFiles()) {
      Files.delete(file.toPath());
    }
    Files.delete(folder);
  }

  private static Set<String> inTable(String text) {
    Set<String> names = new TreeSet<>();
    Matcher found = Pattern.compile("^\\| `(\\w+Test)` \\|", Pattern.MULTILINE).matcher(text);
    while (found.find()) {
      names.add(found.group(1));
    }
    return names;
  }

  private static Set<String> inFolder() {
    Set<String> names = new TreeSet<>();
    for (String name : Arrays.asList(TESTS.toFile().list())) {
      if (name.endsWith("Test.java")) {
        names.add(name.replace(".java", ""));
      }
    }
    return names;
  }
}
