import java.io.ByteArrayOutputStream;
import java.io.File;
import java.io.PrintStream;
import java.lang.reflect.Method;
import java.lang.reflect.Modifier;
import java.net.URL;
import java.net.URLClassLoader;
import java.nio.file.Files;
import java.nio.file.Path;
import java.util.ArrayList;
import java.util.List;
import java.util.regex.Matcher;
import java.util.regex.Pattern;
import javax.tools.ToolProvider;

/** What README.md says of the class: its program prints what its comments tell, and it names all calls and tests. */
public final class ReadmeTest {
  private static int wrong = 0;

  private static void due(boolean so, String what) {
    if (!so) { wrong++; System.out.println(what); }
  }

  private static String programOf(String page) {
    Matcher block = Pattern.compile("```java\n(.*?)```", Pattern.DOTALL).matcher(page);
    return block.find() ? block.group(1) : "";
  }

  /** The answers that the comments behind println tell, up to a colon or the line's end. */
  private static List<String> answersTold(String program) {
    List<String> told = new ArrayList<>();
    Matcher line = Pattern.compile("println\\(.*\\);\\s*// ([^:\n]+)").matcher(program);
    while (line.find()) told.add(line.group(1).trim());
    return told;
  }

  private static List<String> answersPrinted(String program) throws Exception {
    Path room = Files.createTempDirectory("readme");
    Path source = room.resolve("Example.java");
    Files.writeString(source, program);
    int failed = ToolProvider.getSystemJavaCompiler().run(null, null, null, "-cp", System.getProperty("java.class.path"),
        "-d", room.toString(), source.toString());
    due(failed == 0, "the program of README.md doesn't compile");
    if (failed != 0) return List.of();
    PrintStream before = System.out;
    ByteArrayOutputStream printed = new ByteArrayOutputStream();
    try (URLClassLoader loader = new URLClassLoader(new URL[] {room.toUri().toURL()})) {
      Method main = loader.loadClass("Example").getMethod("main", String[].class);
      System.setOut(new PrintStream(printed, true));
      main.invoke(null, (Object) new String[0]);
    } finally {
      System.setOut(before);
      for (File file : room.toFile().listFiles()) file.delete();
      room.toFile().delete();
    }
    return printed.toString().lines().toList();
  }

  public static void main(String[] args) throws Exception {
    String page = Files.readString(Path.of("README.md"));
    String program = programOf(page);
    List<String> told = answersTold(program);
    List<String> printed = answersPrinted(program);
    due(told.size() >= 10, "README.md tells " + told.size() + " answers only");
    due(told.equals(printed), "README.md tells " + told + ", its program prints " + printed);

    for (Method call : DealtSea.class.getDeclaredMethods()) {
      if (Modifier.isPublic(call.getModifiers())) {
        due(page.contains("`" + call.getName() + "`"), "README.md doesn't name the call " + call.getName());
      }
    }
    for (File test : new File("src/test/java").listFiles()) {
      due(page.contains("`src/test/java/" + test.getName() + "`"), "README.md doesn't name the test " + test.getName());
    }
    due(page.contains(".ci/run"), "README.md doesn't say how to run the tests");
    System.out.println(wrong == 0 ? "the readme is so" : wrong + " wrong");
    System.exit(wrong == 0 ? 0 : 1);
  }
}
