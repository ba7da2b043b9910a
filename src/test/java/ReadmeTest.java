import java.net.URL;
import java.net.URLClassLoader;
import java.nio.file.Files;
import java.nio.file.Path;
import java.util.List;
import java.util.regex.Matcher;
import java.util.regex.Pattern;
import javax.tools.ToolProvider;

/** Compiles and runs the boxes of README.md; each answer behind a call there must be the one given. */
public final class ReadmeTest {
  private static final Pattern BOX = Pattern.compile("```java\n(.*?)```", Pattern.DOTALL);
  private static final Pattern ANSWERED = Pattern.compile("(\\S.*);\\s*// (-?\\d+|true|false)\\b.*");

  private static final StringBuilder members = new StringBuilder();
  private static int runs = 0;

  private ReadmeTest() {}

  public static void main(String[] args) throws Exception {
    Matcher boxes = BOX.matcher(Files.readString(Path.of("README.md")));
    while (boxes.find()) {
      takeBox(boxes.group(1));
    }
    Due.due("boxes with calls", runs, 2);
    run();
    Due.close("ReadmeTest");
  }

  /** A box is a method of its own, or calls, which go into one. */
  private static void takeBox(String box) {
    if (box.startsWith("static ")) {
      members.append(box);
      return;
    }
    members.append("static void run").append(runs++).append("() {\n");
    for (String line : box.split("\n")) {
      Matcher answered = ANSWERED.matcher(line);
      if (answered.matches()) {
        String call = answered.group(1);
        members.append("Due.due(\"README.md, ").append(call.replace("\"", "\\\"")).append("\", ")
            .append(call).append(", ").append(answered.group(2)).append(");\n");
      } else {
        members.append(line).append("\n");
      }
    }
    members.append("}\n");
  }

  private static void run() throws Exception {
    Path folder = Files.createTempDirectory("readme");
    Path source = folder.resolve("Readme.java");
    Path made = folder.resolve("Readme.class");
    try {
      Files.writeString(source, "class Readme {\n" + members + "}\n");
      int failed = ToolProvider.getSystemJavaCompiler().run(null, null, null,
          "-cp", System.getProperty("java.class.path"), "-d", folder.toString(), source.toString());
      Due.due("compiling the boxes of README.md", failed, 0);
      if (failed == 0) {
        runMade(folder);
      }
    } finally {
      for (Path path : List.of(source, made, folder)) {
        Files.deleteIfExists(path);
      }
    }
  }

  private static void runMade(Path folder) throws Exception {
    // Due isn't public, so what is made sees only one that the same loader brings.
    String[] entries = System.getProperty("java.class.path").split(java.io.File.pathSeparator);
    URL[] urls = new URL[entries.length + 1];
    urls[0] = folder.toUri().toURL();
    for (int i = 0; i < entries.length; i++) {
      urls[i + 1] = Path.of(entries[i]).toUri().toURL();
    }
    try (URLClassLoader loader = new URLClassLoader(urls, null)) {
      Class<?> readme = loader.loadClass("Readme");
      for (int i = 0; i < runs; i++) {
        java.lang.reflect.Method method = readme.getDeclaredMethod("run" + i);
        method.setAccessible(true);
        method.invoke(null);
      }
      java.lang.reflect.Method wrong = loader.loadClass("Due").getDeclaredMethod("anyWrong");
      wrong.setAccessible(true);
      Due.due("a wrong answer in README.md", (Boolean) wrong.invoke(null), false);
      java.lang.reflect.Method looked = loader.loadClass("Due").getDeclaredMethod("looked");
      looked.setAccessible(true);
      Due.due("answers in README.md looked at", (Integer) looked.invoke(null) >= 20, true);
    }
  }
}
