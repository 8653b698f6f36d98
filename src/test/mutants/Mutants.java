import java.io.PrintStream;
import java.io.OutputStream;
import java.io.StringWriter;
import java.lang.reflect.Field;
import java.net.URI;
import java.nio.charset.StandardCharsets;
import java.nio.file.Files;
import java.nio.file.Path;
import java.util.ArrayList;
import java.util.Collection;
import java.util.HashMap;
import java.util.LinkedHashMap;
import java.util.List;
import java.util.Map;
import java.util.regex.Matcher;
import java.util.regex.Pattern;
import java.util.stream.Collectors;
import java.util.stream.Stream;
import javax.tools.FileObject;
import javax.tools.ForwardingJavaFileManager;
import javax.tools.JavaCompiler;
import javax.tools.JavaFileManager;
import javax.tools.JavaFileObject;
import javax.tools.SimpleJavaFileObject;
import javax.tools.StandardJavaFileManager;
import javax.tools.ToolProvider;

/**
 * Breaks the class, sentence by sentence, as mutants.txt says, and looks whether the sentence's own test fails then.
 * Run by hand from the project's folder (java src/test/mutants/Mutants.java): it knows the source's words, .ci/run does not.
 */
public final class Mutants {
  private static final Path SOURCE = Path.of("src/main/java/NumberSpeech.java");
  private static final Path LIST = Path.of("src/test/mutants/mutants.txt");
  private static final List<String> TESTS = List.of("BoundsOfTexts", "BoundsOfRules", "BoundsOfNumbers", "BoundsOfAll");
  private static final long MOST_MILLIS = 60_000;
  private static final JavaCompiler COMPILER = ToolProvider.getSystemJavaCompiler();

  private record Mutant(String sentence, String piece, String put) { }

  private static final class Source extends SimpleJavaFileObject {
    final String text;

    Source(String name, String text) {
      super(URI.create("string:///" + name + ".java"), Kind.SOURCE);
      this.text = text;
    }

    @Override public CharSequence getCharContent(boolean lenient) { return text; }
  }

  private static final class Code extends SimpleJavaFileObject {
    final java.io.ByteArrayOutputStream bytes = new java.io.ByteArrayOutputStream();

    Code(String name) { super(URI.create("code:///" + name.replace('.', '/') + ".class"), Kind.CLASS); }

    @Override public OutputStream openOutputStream() { return bytes; }
  }

  /** The classes of these sources; an exception if one does not compile. */
  private static Map<String, byte[]> compile(Collection<Source> sources) {
    Map<String, Code> codes = new HashMap<>();
    StandardJavaFileManager files = COMPILER.getStandardFileManager(null, null, StandardCharsets.UTF_8);
    JavaFileManager kept = new ForwardingJavaFileManager<>(files) {
      @Override public JavaFileObject getJavaFileForOutput(Location location, String name, JavaFileObject.Kind kind, FileObject sibling) {
        return codes.computeIfAbsent(name, Code::new);
      }
    };
    StringWriter said = new StringWriter();
    if (!COMPILER.getTask(said, kept, null, List.of("--release", "17", "-nowarn", "-proc:none"), null, sources).call()) {
      throw new IllegalStateException(said.toString());
    }
    Map<String, byte[]> classes = new HashMap<>();
    codes.forEach((name, code) -> classes.put(name, code.bytes.toByteArray()));
    return classes;
  }

  private static final class Room extends ClassLoader {
    final Map<String, byte[]> classes;

    Room(Map<String, byte[]> classes) {
      super(ClassLoader.getPlatformClassLoader());
      this.classes = classes;
    }

    @Override protected Class<?> findClass(String name) throws ClassNotFoundException {
      byte[] bytes = classes.get(name);
      if (bytes == null) throw new ClassNotFoundException(name);
      return defineClass(name, bytes, 0, bytes.length);
    }
  }

  private static Source file(Path path) throws Exception {
    return new Source(path.getFileName().toString().replace(".java", ""), Files.readString(path, StandardCharsets.UTF_8));
  }

  private static List<Mutant> mutants(Collection<String> sentences) throws Exception {
    List<Mutant> mutants = new ArrayList<>();
    String sentence = null;
    String piece = null;
    for (String line : Files.readAllLines(LIST, StandardCharsets.UTF_8)) {
      if (line.startsWith("= ")) sentence = whole(line.substring(2), sentences);
      if (line.startsWith("- ")) piece = line.substring(2);
      if (line.startsWith("+")) mutants.add(new Mutant(sentence, piece, line.substring(1).strip()));
    }
    return mutants;
  }

  private static String whole(String start, Collection<String> sentences) {
    List<String> fitting = sentences.stream().filter(sentence -> sentence.startsWith(start)).toList();
    if (fitting.size() != 1) throw new IllegalStateException(fitting.size() + " sentences begin with: " + start);
    return fitting.get(0);
  }

  /** The source with the piece, that stands in it once, put otherwise; a \n in a piece stands for the end of a line. */
  private static String broken(String source, Mutant mutant) {
    String lines = Stream.of(mutant.piece.split("\\\\n")).map(String::strip).map(Pattern::quote).collect(Collectors.joining("\\s*\\n\\s*"));
    Matcher matcher = Pattern.compile(lines).matcher(source);
    if (!matcher.find()) throw new IllegalStateException("it does not stand in the source");
    int start = matcher.start();
    int end = matcher.end();
    if (matcher.find()) throw new IllegalStateException("it stands in the source more than once");
    return source.substring(0, start) + mutant.put.replace("\\n", "\n") + source.substring(end);
  }

  /** Runs the test of one sentence, or all; how many were broken, and which there are. */
  private static int run(Map<String, byte[]> classes, String only, List<String> sentences) throws Exception {
    Room room = new Room(classes);
    Class<?> told = room.loadClass("Sentences");
    told.getField("only").set(null, only);
    Throwable[] wrong = new Throwable[1];
    Thread runner = new Thread(() -> {
      try {
        for (String test : TESTS) room.loadClass(test).getMethod("all").invoke(null);
      } catch (Throwable e) {
        wrong[0] = e;
      }
    });
    runner.setDaemon(true);
    runner.start();
    runner.join(MOST_MILLIS);
    if (runner.isAlive()) return 1;
    if (wrong[0] != null) throw new IllegalStateException(wrong[0]);
    Field all = told.getField("all");
    if (sentences != null) for (Object sentence : (Collection<?>) all.get(null)) sentences.add((String) sentence);
    return ((List<?>) told.getField("broken").get(null)).size();
  }

  public static void main(String[] args) throws Exception {
    PrintStream out = System.out;
    System.setOut(new PrintStream(OutputStream.nullOutputStream()));
    List<Source> sources = new ArrayList<>();
    Source main = file(SOURCE);
    sources.add(main);
    for (String name : List.of("Bench", "Sentences")) sources.add(file(Path.of("src/test/help/" + name + ".java")));
    for (String name : TESTS) sources.add(file(Path.of("src/test/java/" + name + ".java")));
    Map<String, byte[]> tests = compile(sources);
    List<String> sentences = new ArrayList<>();
    int wrong = run(tests, null, sentences);
    if (wrong != 0) out.println(wrong + " sentences are broken in the class as it is");
    tests.keySet().removeIf(name -> name.startsWith("NumberSpeech"));
    Map<String, Integer> told = new LinkedHashMap<>();
    for (String sentence : sentences) told.put(sentence, 0);
    int lived = 0;
    for (Mutant mutant : mutants(sentences)) {
      String what = mutant.sentence + "\n    - " + mutant.piece + "\n    + " + mutant.put;
      try {
        Map<String, byte[]> classes = new HashMap<>(tests);
        classes.putAll(compile(List.of(new Source("NumberSpeech", broken(main.text, mutant)))));
        told.merge(mutant.sentence, 1, Integer::sum);
        if (run(classes, mutant.sentence, null) == 0) {
          lived++;
          out.println("NOT SEEN: " + what);
        }
      } catch (IllegalStateException e) {
        lived++;
        out.println("NOT MADE: " + what + "\n    " + e.getMessage());
      }
    }
    for (Map.Entry<String, Integer> entry : told.entrySet()) {
      if (entry.getValue() > 0) continue;
      lived++;
      out.println("NO MUTANT: " + entry.getKey());
    }
    int made = told.values().stream().mapToInt(Integer::intValue).sum();
    out.println(made + " mutants of " + told.size() + " sentences; " + lived + " not seen, not made, or wanting");
    System.exit(lived + wrong == 0 ? 0 : 1);
  }
}
