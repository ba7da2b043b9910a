import java.lang.reflect.Constructor;
import java.lang.reflect.Field;
import java.lang.reflect.Method;
import java.lang.reflect.Modifier;
import java.nio.file.Files;
import java.nio.file.Path;
import java.util.ArrayList;
import java.util.List;
import java.util.Set;
import java.util.TreeSet;

/** The class's face, and those rules of LANGUAGE.md that can be looked up in its source. */
public final class FaceTest {
  private static final List<String> FACE = new ArrayList<>();
  private static final List<String> CONSTANTS = new ArrayList<>();

  private static final String[] BANNED = {
    "throw", "throws", "try", "catch", "finally", "assert", "synchronized", "import", "package",
    "equals", "hashCode", "toString", "System.out", "Thread", "Object", "volatile", "transient",
    "native", "record", "interface", "enum", "var", "instanceof"
  };

  public static void main(String[] args) throws Exception {
    readFace(Files.readString(Path.of("../shared/DOC.md")));
    face();
    constants();
    hiddenMembers();
    source(Files.readString(Path.of(System.getProperty("source", "src/main/java/MarkOffice.java"))));
    Due.close("FaceTest");
  }

  /** The document's face, as a method tells itself: its parameters' types without their names. */
  private static void readFace(String document) {
    String face = document.substring(document.indexOf("```java\n"));
    for (String line : face.substring(0, face.indexOf("\n}")).split("\n")) {
      String member = line.trim().replaceFirst("^public ", "");
      if (member.startsWith("static final ")) {
        CONSTANTS.add(member.substring("static final ".length(), member.length() - 1));
      } else if (member.endsWith(");") && !member.startsWith("MarkOffice(")) {
        FACE.add(member.substring(0, member.length() - 1).replaceAll("(int|boolean) \\w+(?=[,)])", "$1"));
      }
    }
    Due.due("methods of the document's face", FACE.size(), 48);
  }

  private static void constants() throws Exception {
    Set<String> found = new TreeSet<>();
    for (Field field : MarkOffice.class.getDeclaredFields()) {
      if (Modifier.isPublic(field.getModifiers())) {
        boolean constant = Modifier.isStatic(field.getModifiers()) && Modifier.isFinal(field.getModifiers());
        Due.due(field + " is a constant", constant, true);
        found.add(field.getType() + " " + field.getName() + " = " + field.getInt(null));
      }
    }
    Due.due("constants " + found, found.equals(new TreeSet<>(CONSTANTS)), true);
  }

  private static void face() {
    Set<String> found = new TreeSet<>();
    Set<String> wanted = new TreeSet<>(FACE);
    for (Method method : MarkOffice.class.getDeclaredMethods()) {
      if (!Modifier.isPrivate(method.getModifiers())) {
        StringBuilder line = new StringBuilder(method.getReturnType() + " " + method.getName() + "(");
        for (Class<?> type : method.getParameterTypes()) {
          line.append(line.charAt(line.length() - 1) == '(' ? "" : ", ").append(type);
        }
        found.add(line.append(")").toString());
        Due.due(method + " is public", Modifier.isPublic(method.getModifiers()), true);
      }
    }
    Due.due("methods " + found, found.equals(wanted), true);
    Constructor<?>[] constructors = MarkOffice.class.getDeclaredConstructors();
    Due.due("constructors", constructors.length, 1);
    Due.due("its parameters", constructors[0].getParameterCount(), 0);
    Due.due("public final class", MarkOffice.class.getModifiers(), Modifier.PUBLIC | Modifier.FINAL);
    Due.due("NONE", MarkOffice.NONE, -1);
  }

  private static void hiddenMembers() {
    Set<String> names = new TreeSet<>();
    FACE.forEach(line -> names.add(line.substring(line.indexOf(' ') + 1, line.indexOf('('))));
    for (Field field : MarkOffice.class.getDeclaredFields()) {
      boolean shown = !Modifier.isPrivate(field.getModifiers());
      Due.due("field " + field.getName(), shown, field.getName().equals("NONE"));
    }
    for (Method method : MarkOffice.class.getDeclaredMethods()) {
      boolean hidden = Modifier.isPrivate(method.getModifiers());
      Due.due("private " + method.getName(), hidden && names.contains(method.getName()), false);
      Due.due(method + " takes seven at most", method.getParameterCount() <= 7, true);
    }
    Due.due("classes inside", MarkOffice.class.getDeclaredClasses().length <= 11, true);
    for (Class<?> inside : MarkOffice.class.getDeclaredClasses()) {
      Due.due(inside + " is static", Modifier.isStatic(inside.getModifiers()), true);
      Due.due(inside + " is private", Modifier.isPrivate(inside.getModifiers()), true);
      for (Method method : inside.getDeclaredMethods()) {
        Due.due(inside + " " + method.getName(), names.contains(method.getName()), false);
        Due.due(method + " takes seven at most", method.getParameterCount() <= 7, true);
      }
      for (Field field : inside.getDeclaredFields()) {
        boolean changes = Modifier.isStatic(field.getModifiers()) && !Modifier.isFinal(field.getModifiers());
        Due.due(inside + " " + field.getName() + " is static and no constant", changes, false);
      }
    }
  }

  private static void source(String text) {
    String code = text.replaceAll("(?s)/\\*.*?\\*/", " ").replaceAll("//[^\n]*", " ")
        .replaceAll("\"[^\"]*\"", "\"\"");
    for (String word : BANNED) {
      boolean has = java.util.regex.Pattern.compile("(?<![A-Za-z0-9_.])" + word + "(?![A-Za-z0-9_])")
          .matcher(code).find();
      Due.due("the source has " + word, has, false);
    }
    Due.due("lambdas, method references", code.contains("->") || code.contains("::"), false);
    Due.due("signs above 127", text.chars().anyMatch(sign -> sign > 127), false);
    Set<String> library = new TreeSet<>();
    java.util.regex.Matcher calls =
        java.util.regex.Pattern.compile("\\b(Math|Integer|Long|System|Arrays|String)\\.(\\w+)").matcher(code);
    while (calls.find()) {
      library.add(calls.group());
    }
    Due.due("the library: " + library, library.equals(
        Set.of("Math.max", "Math.min", "Integer.bitCount", "System.arraycopy")), true);
    methodsAreShort(code);
  }

  /** Methods of the class stand two or four blanks in, and end with a brace as far in. */
  private static void methodsAreShort(String code) {
    String[] lines = code.split("\n");
    int start = -1;
    String in = "";
    for (int i = 0; i < lines.length; i++) {
      java.util.regex.Matcher head =
          java.util.regex.Pattern.compile("^(  |    )(?:[a-z]\\S* )*[\\w\\[\\]]+ ?\\w*\\(.*\\{$").matcher(lines[i]);
      if (head.find()) {
        start = i;
        in = head.group(1);
      } else if (start >= 0 && lines[i].equals(in + "}")) {
        Due.due(lines[start].trim() + " has " + (i - start + 1) + " lines", i - start + 1 <= 60, true);
        start = -1;
      }
    }
  }
}
