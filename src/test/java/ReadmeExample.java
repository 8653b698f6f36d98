import java.io.ByteArrayOutputStream;
import java.io.PrintStream;
import java.lang.reflect.Method;
import java.lang.reflect.Modifier;
import java.net.URL;
import java.net.URLClassLoader;
import java.nio.charset.StandardCharsets;
import java.nio.file.Files;
import java.nio.file.Path;
import java.util.ArrayList;
import java.util.List;
import java.util.regex.Matcher;
import java.util.regex.Pattern;
import javax.tools.ToolProvider;

/** README.md: its program prints what it says, and its table names each call with all it takes (run from the project's folder). */
public final class ReadmeExample {
  private static final Pattern BLOCK = Pattern.compile("(?ms)^```(\\w*)\\n(.*?)^```$");
  private static final Pattern CALL = Pattern.compile("`(\\w+)\\(([^)`]*)\\)`");

  private static String printedBy(String program) throws Exception {
    Path room = Files.createTempDirectory("readme");
    Path source = room.resolve("Example.java");
    Files.writeString(source, program, StandardCharsets.UTF_8);
    String classes = Path.of(NumberSpeech.class.getProtectionDomain().getCodeSource().getLocation().toURI()).toString();
    int failed = ToolProvider.getSystemJavaCompiler().run(null, null, null, "-proc:none", "-cp", classes, "-d", room.toString(), source.toString());
    Bench.due("the program of README.md compiles", String.valueOf(failed), "0");
    PrintStream shown = System.out;
    ByteArrayOutputStream printed = new ByteArrayOutputStream();
    try (URLClassLoader loader = new URLClassLoader(new URL[] {room.toUri().toURL()}, ReadmeExample.class.getClassLoader())) {
      System.setOut(new PrintStream(printed, true, StandardCharsets.UTF_8));
      loader.loadClass("Example").getMethod("main", String[].class).invoke(null, (Object) new String[0]);
    } finally {
      System.setOut(shown);
      for (Path file : List.of(source, room.resolve("Example.class"), room)) Files.deleteIfExists(file);
    }
    return printed.toString(StandardCharsets.UTF_8).replace(System.lineSeparator(), "\n");
  }

  /** How many arguments each call of the table has; the document's face has no two calls of one name. */
  private static int argumentsOf(String name, String readme) {
    Matcher matcher = CALL.matcher(readme);
    while (matcher.find()) {
      if (matcher.group(1).equals(name)) return matcher.group(2).isEmpty() ? 0 : matcher.group(2).split(",").length;
    }
    return -1;
  }

  public static void main(String[] args) throws Exception {
    String readme = Files.readString(Path.of("README.md"), StandardCharsets.UTF_8);
    List<String> blocks = new ArrayList<>();
    Matcher matcher = BLOCK.matcher(readme);
    while (matcher.find()) blocks.add(matcher.group(2));
    Bench.due("what the program prints", printedBy(blocks.get(0)), blocks.get(1));
    String table = readme.substring(readme.indexOf("| call |"));
    for (Method method : NumberSpeech.class.getDeclaredMethods()) {
      if (!Modifier.isPublic(method.getModifiers())) continue;
      Bench.due("arguments of " + method.getName() + "() in the table", String.valueOf(argumentsOf(method.getName(), table)), String.valueOf(method.getParameterCount()));
    }
    Bench.end("ReadmeExample");
  }
}
