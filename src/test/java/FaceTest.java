import java.lang.reflect.Constructor;
import java.lang.reflect.Member;
import java.lang.reflect.Method;
import java.lang.reflect.Modifier;
import java.nio.file.Files;
import java.nio.file.Path;
import java.util.ArrayList;
import java.util.Arrays;
import java.util.List;
import java.util.TreeSet;
import java.util.regex.Matcher;
import java.util.regex.Pattern;

/** The face is the document's and no more, and the source keeps to what LANGUAGE.md leaves. */
public final class FaceTest {
  private static final Path DOC = Path.of("../shared/DOC.md");
  private static final Path SOURCE = Path.of("src/main/java/UpOneSide.java");
  private static int wrong = 0;

  private static void check(boolean right, String what) {
    if (!right) {
      wrong++;
      System.out.println("wrong: " + what);
    }
  }

  private static TreeSet<String> facesOfDocument() throws Exception {
    TreeSet<String> faces = new TreeSet<>();
    Matcher lines = Pattern.compile("(?m)^    public (int|long) (\\w+)\\((.*)\\);$").matcher(Files.readString(DOC));
    while (lines.find()) {
      int parameters = lines.group(3).isEmpty() ? 0 : lines.group(3).split(",").length;
      faces.add(lines.group(1) + " " + lines.group(2) + " " + parameters);
    }
    return faces;
  }

  private static boolean isPrivate(Member member) {
    return Modifier.isPrivate(member.getModifiers());
  }

  private static void checkFace() throws Exception {
    TreeSet<String> faces = new TreeSet<>();
    List<Method> hidden = new ArrayList<>();
    for (Method method : UpOneSide.class.getDeclaredMethods()) {
      if (Modifier.isPublic(method.getModifiers())) {
        faces.add(method.getReturnType().getName() + " " + method.getName() + " " + method.getParameterCount());
        check(Arrays.stream(method.getParameterTypes()).allMatch(t -> t == int.class), "parameters of " + method);
      } else {
        hidden.add(method);
      }
    }
    check(faces.equals(facesOfDocument()), "face " + faces + " is not " + facesOfDocument());
    check(faces.size() == 50, "fifty methods, not " + faces.size());
    for (Class<?> inside : UpOneSide.class.getDeclaredClasses()) {
      check(Modifier.isStatic(inside.getModifiers()), "static: " + inside);
      hidden.addAll(List.of(inside.getDeclaredMethods()));
    }
    for (Method method : hidden) {
      check(faces.stream().noneMatch(f -> f.split(" ")[1].equals(method.getName())), "name of " + method);
    }
    for (Method method : UpOneSide.class.getDeclaredMethods()) {
      check(isPrivate(method) || Modifier.isPublic(method.getModifiers()), "seen from outside: " + method);
    }
    Arrays.stream(UpOneSide.class.getDeclaredFields()).forEach(f -> check(isPrivate(f), "seen from outside: " + f));
    Constructor<?>[] made = UpOneSide.class.getDeclaredConstructors();
    check(made.length == 1 && Modifier.isPublic(made[0].getModifiers()), "one public constructor");
    check(Modifier.isFinal(UpOneSide.class.getModifiers()), "final");
  }

  private static void checkSource() throws Exception {
    String code = Files.readString(SOURCE)
        .replaceAll("(?s)/\\*.*?\\*/", "").replaceAll("//[^\n]*", "")
        .replaceAll("\"[^\"]*\"", "\"\"");
    String[] ruledOut = {"\\bthrow\\b", "\\btry\\b", "\\bcatch\\b", "\\bsynchronized\\b", "\\bassert\\b", "->", "::",
        "\\bdouble\\b", "\\bfloat\\b", "\"\\s*\\+", "\\+\\s*\"", "\\bstatic\\s*\\{", "\\bequals\\b", "\\bhashCode\\b",
        "\\btoString\\b", "\\bSystem\\.(?!arraycopy)", "\\bpackage\\b"};
    for (String rule : ruledOut) {
      check(!Pattern.compile(rule).matcher(code).find(), "ruled out: " + rule);
    }
    Matcher imports = Pattern.compile("(?m)^import (.*);$").matcher(code);
    while (imports.find()) {
      check(imports.group(1).equals("java.util.Arrays"), "import " + imports.group(1));
    }
    checkStaticFields(code);
    checkMethodLengths(code);
  }

  private static void checkStaticFields(String code) {
    Matcher fields = Pattern.compile("(?m)^\\s*(?:private )?static (?!final class)([^(]*?)[=;]").matcher(code);
    while (fields.find()) {
      check(fields.group(1).startsWith("final "), "static field " + fields.group(1));
    }
  }

  private static void checkMethodLengths(String code) {
    int begin = 0;
    int line = 0;
    for (String text : code.split("\n")) {
      line++;
      if (text.matches("^( {2}| {4})(public|private|static|int|long|boolean|void|String)\\b.*\\) \\{$")) {
        begin = line;
      }
      if (text.matches("^( {2}| {4})\\}$")) {
        check(line - begin <= 60, "too long: the method at line " + begin);
        begin = line;
      }
    }
  }

  public static void main(String[] args) throws Exception {
    checkFace();
    checkSource();
    System.out.println(wrong == 0 ? "the face and the source are right" : wrong + " wrong");
    if (wrong != 0) {
      System.exit(1);
    }
  }
}
