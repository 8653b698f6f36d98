import java.io.File;
import java.lang.reflect.Method;
import java.lang.reflect.Modifier;
import java.nio.charset.StandardCharsets;
import java.nio.file.Files;
import java.nio.file.Path;
import java.util.ArrayList;
import java.util.List;
import java.util.regex.Matcher;
import java.util.regex.Pattern;

/** README.md: its program prints what it says, and its table names each call with all it takes (run from the project's folder). */
public final class ReadmeExample {
  private static final Pattern BLOCK = Pattern.compile("(?ms)^```\\w*\\n(.*?)^```$");
  private static final Pattern CALL = Pattern.compile("`(\\w+)\\(([^)`]*)\\)`");

  /** What a command prints; javac and java are there, as .ci/run needs them. */
  private static String printedBy(String... command) throws Exception {
    Process process = new ProcessBuilder(command).redirectError(ProcessBuilder.Redirect.INHERIT).start();
    String printed = new String(process.getInputStream().readAllBytes(), StandardCharsets.UTF_8);
    Bench.due(command[0] + " ends", String.valueOf(process.waitFor()), "0");
    return printed.replace(System.lineSeparator(), "\n");
  }

  private static String printedByProgram(String program) throws Exception {
    Path room = Files.createTempDirectory("readme");
    Path source = room.resolve("Example.java");
    Files.writeString(source, program, StandardCharsets.UTF_8);
    String classes = Path.of(NumberSpeech.class.getProtectionDomain().getCodeSource().getLocation().toURI()).toString();
    printedBy("javac", "-proc:none", "-cp", classes, "-d", room.toString(), source.toString());
    String printed = printedBy("java", "-cp", classes + File.pathSeparator + room, "Example");
    for (Path file : List.of(source, room.resolve("Example.class"), room)) Files.deleteIfExists(file);
    return printed;
  }

  /** How many arguments the call of this name has in the table; -1: it is not there. */
  private static int argumentsOf(String name, String table) {
    Matcher matcher = CALL.matcher(table);
    while (matcher.find()) {
      if (matcher.group(1).equals(name)) return matcher.group(2).isEmpty() ? 0 : matcher.group(2).split(",").length;
    }
    return -1;
  }

  public static void main(String[] args) throws Exception {
    String readme = Files.readString(Path.of("README.md"), StandardCharsets.UTF_8);
    List<String> blocks = new ArrayList<>();
    Matcher matcher = BLOCK.matcher(readme);
    while (matcher.find()) blocks.add(matcher.group(1));
    Bench.due("what the program prints", printedByProgram(blocks.get(0)), blocks.get(1));
    String table = readme.substring(readme.indexOf("| call |"));
    for (Method method : NumberSpeech.class.getDeclaredMethods()) {
      if (!Modifier.isPublic(method.getModifiers())) continue;
      Bench.due("arguments of " + method.getName() + "() in the table", String.valueOf(argumentsOf(method.getName(), table)), String.valueOf(method.getParameterCount()));
    }
    Bench.end("ReadmeExample");
  }
}
