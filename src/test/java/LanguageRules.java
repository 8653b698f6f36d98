import java.lang.reflect.Constructor;
import java.lang.reflect.Field;
import java.lang.reflect.Method;
import java.lang.reflect.Modifier;
import java.nio.charset.StandardCharsets;
import java.nio.file.Files;
import java.nio.file.Path;
import java.util.ArrayList;
import java.util.List;
import java.util.Set;
import java.util.TreeSet;
import java.util.regex.Matcher;
import java.util.regex.Pattern;

/** The rules of LANGUAGE.md that can be seen in the source or the compiled class (run from the project's folder). */
public final class LanguageRules {
  private static final String FACE = "feed(int,int,int,int,int) text(int) fault() more(int) limit(int) drop(int,int) rise(int,int) undo() told(int) "
      + "rule(int,int,int) item(int,int,int,int) fits(int,int) said(int,int,int) at(int,int,int) asked(int,int) causes(int,int) cause(int,int,int,int) "
      + "silent(int,int) alike(int,int) read(int,int,int) ways(int,int,int) way(int,int,int,int) stretches(int,int) heard(int,int) same() order(int,int) "
      + "longest(int,int) chain(int,int,int) fixed(int) words(int,int) needless(int) print(int) status(int)";

  private static void none(String what, Object found) { Bench.due(what, String.valueOf(found), "[]"); }

  private static String signature(Method method) {
    List<String> types = new ArrayList<>();
    for (Class<?> type : method.getParameterTypes()) types.add(type.getName());
    return method.getName() + "(" + String.join(",", types) + ")";
  }

  private static void face() {
    Set<String> shown = new TreeSet<>();
    Set<String> names = new TreeSet<>();
    for (Method method : NumberSpeech.class.getDeclaredMethods()) {
      if (Modifier.isPrivate(method.getModifiers())) continue;
      shown.add(signature(method));
      names.add(method.getName());
      Bench.due(method + " is public", String.valueOf(Modifier.isPublic(method.getModifiers())), "true");
      Bench.due(method + " answers", method.getReturnType().getName(), method.getName().equals("print") ? "long" : "int");
    }
    Bench.due("the face", shown.toString(), new TreeSet<>(List.of(FACE.split(" "))).toString());
    Bench.due("constructors", String.valueOf(NumberSpeech.class.getDeclaredConstructors().length), "1");
    for (Field field : NumberSpeech.class.getDeclaredFields()) {
      boolean mine = Modifier.isPrivate(field.getModifiers());
      Bench.due(field + " is private, or NONE", String.valueOf(mine || field.getName().equals("NONE")), "true");
    }
    for (Method method : NumberSpeech.class.getDeclaredMethods()) {
      if (Modifier.isPrivate(method.getModifiers()) && names.contains(method.getName())) none("private with a public name", method);
    }
    for (Class<?> type : NumberSpeech.class.getDeclaredClasses()) inside(type, names);
    Bench.due("at most twelve classes", String.valueOf(NumberSpeech.class.getDeclaredClasses().length <= 11), "true");
  }

  private static void inside(Class<?> type, Set<String> names) {
    Bench.due(type + " is static", String.valueOf(Modifier.isStatic(type.getModifiers())), "true");
    Bench.due(type + " is not public", String.valueOf(Modifier.isPublic(type.getModifiers())), "false");
    int fields = 0;
    for (Field field : type.getDeclaredFields()) {
      if (!Modifier.isStatic(field.getModifiers())) fields++;
      else Bench.due(field + " is final", String.valueOf(Modifier.isFinal(field.getModifiers())), "true");
    }
    Bench.due(type + " has at most twenty fields", String.valueOf(fields <= 20), "true");
    for (Method method : type.getDeclaredMethods()) {
      Bench.due(method + " has a name of its own", String.valueOf(!names.contains(method.getName())), "true");
      Bench.due(method + " has at most seven parameters", String.valueOf(method.getParameterCount() <= 7), "true");
    }
    for (Constructor<?> maker : type.getDeclaredConstructors()) {
      Bench.due(maker + " has at most seven parameters", String.valueOf(maker.getParameterCount() <= 7), "true");
    }
  }

  private static List<String> found(String pattern, String text) {
    List<String> found = new ArrayList<>();
    Matcher matcher = Pattern.compile(pattern).matcher(text);
    while (matcher.find()) found.add(matcher.group());
    return found;
  }

  private static void source() throws Exception {
    String whole = Files.readString(Path.of("src/main/java/NumberSpeech.java"), StandardCharsets.UTF_8);
    none("signs above 127", found("[^\\x00-\\x7f]", whole));
    String code = whole.replaceAll("(?s)/\\*.*?\\*/", "").replaceAll("//[^\n]*", "");
    Bench.due("imports", found("(?m)^import .*$", code).toString(), "[import java.util.Arrays;, import java.util.NoSuchElementException;]");
    none("forbidden words", found("\\b(package|synchronized|assert|finally|try|catch|protected|volatile|transient|native|strictfp|var|yield|instanceof"
        + "|equals|hashCode|toString|List|ArrayList|Iterator|Thread|Random|Exact|interface|enum|record|public static (?!final int NONE))\\b", code));
    none("lambdas, method references, texts joined by +", found("->|::|\" *\\+|\\+ *\"", code));
    none("arrays of objects of two dimensions", found("\\b[A-Z]\\w*\\[\\]\\[\\]", code));
    none("other exceptions", found("new (?!NoSuchElement|IllegalArgument)\\w*Exception", code));
    none("library classes", found("\\b(Integer|Long|Character|Byte|Boolean|Object|Collections|StringBuilder)\\b", code));
    for (String call : found("\\b(Arrays|Math|System)\\.\\w+", code)) {
      Bench.due(call + " is listed", String.valueOf(Set.of("Arrays.fill", "Arrays.copyOf", "Math.min", "Math.max", "System.arraycopy").contains(call)), "true");
    }
    int start = 0;
    String[] lines = code.split("\n");
    for (int i = 0; i < lines.length; i++) {
      if (lines[i].matches(" {4}( {4})?[a-zA-Z][^;=]*\\{ *") && !lines[i].contains("class ")) start = i;
      if (lines[i].matches(" {4}( {4})?\\}")) Bench.due("a method of at most sixty lines: " + lines[start].trim(), String.valueOf(i - start < 60 || start == 0), "true");
    }
  }

  public static void main(String[] args) throws Exception {
    face();
    source();
    Bench.end("LanguageRules");
  }
}
