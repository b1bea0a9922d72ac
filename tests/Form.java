import java.io.IOException;
import java.lang.reflect.Constructor;
import java.lang.reflect.Field;
import java.lang.reflect.Method;
import java.lang.reflect.Modifier;
import java.nio.file.Files;
import java.nio.file.Path;
import java.util.ArrayList;
import java.util.List;
import java.util.Set;
import java.util.TreeSet;
import java.util.regex.Matcher;
import java.util.regex.Pattern;

/** The face of the class, and those rules of LANGUAGE.md that can be seen from outside or in the source. */
public final class Form {
  private static final Path SOURCE = Path.of("src/main/java/LandByMap.java");
  private static final String[] FACE = {
    "int land(int)", "int cell(int, int)", "int state(int)", "int set(int, int)", "int says(int, int)", "int map(int)",
    "int water(int)", "int hours(int, int)", "int haul(int, int)", "int like(int)", "int least()", "int works(int)",
    "int dig(int)", "int drawer(int, int)", "int draws(int, int)", "int year()", "int still()", "int rings()",
    "int seeded(int, int, int)", "int seam(int, int, int, boolean)", "int blot(int, int)", "int harm(int, int)",
    "int chosen(int)", "int judge(int)", "int image()", "int restore()", "int count(int)", "int keep(int, int, int)",
    "int row(int, int, int)", "int put(int, int, int)", "long element(int, int)", "int copy(int, int, int, int, int)",
    "int price(int)", "int toss(int)",
  };
  private static int wrong = 0;

  public static void main(String[] args) throws IOException {
    face();
    Set<String> names = new TreeSet<>();
    for (String call : FACE) {
      names.add(call.substring(call.indexOf(' ') + 1, call.indexOf('(')));
    }
    List<Class<?>> classes = new ArrayList<>();
    collect(LandByMap.class, classes);
    check(classes.size() <= 12, "rule 11: there are " + classes.size() + " classes");
    for (Class<?> each : classes) {
      classForm(each, names);
    }
    String code = withoutTextsAndComments(Files.readString(SOURCE));
    words(code);
    lengths(code);
    System.out.println(wrong == 0 ? "the form is kept" : wrong + " faults of form");
    if (wrong != 0) {
      System.exit(1);
    }
  }

  private static void check(boolean holds, String fault) {
    if (!holds) {
      wrong++;
      System.out.println(fault);
    }
  }

  private static String simple(Class<?>[] types) {
    StringBuilder text = new StringBuilder();
    for (Class<?> type : types) {
      text.append(text.length() == 0 ? "" : ", ").append(type.getSimpleName());
    }
    return text.toString();
  }

  private static void face() {
    Set<String> due = new TreeSet<>(List.of(FACE));
    Set<String> got = new TreeSet<>();
    Class<?> main = LandByMap.class;
    check(Modifier.isPublic(main.getModifiers()) && Modifier.isFinal(main.getModifiers()), "rule 1: the class is not public and final");
    for (Method m : main.getDeclaredMethods()) {
      if (!Modifier.isPrivate(m.getModifiers())) {
        check(Modifier.isPublic(m.getModifiers()), "rule 1: " + m);
        check(!Modifier.isStatic(m.getModifiers()), "rule 1: " + m);
        got.add(m.getReturnType().getSimpleName() + " " + m.getName() + "(" + simple(m.getParameterTypes()) + ")");
        String thrown = m.getName().equals("element") ? "IllegalArgumentException, IllegalStateException" : "";
        check(simple(m.getExceptionTypes()).equals(thrown), "the face: what " + m + " throws");
      }
    }
    check(got.equals(due), "rule 1: the face is " + got);
    for (Field f : main.getDeclaredFields()) {
      check(Modifier.isPrivate(f.getModifiers()), "rule 1: " + f);
    }
    Constructor<?>[] made = main.getDeclaredConstructors();
    check(made.length == 1 && Modifier.isPublic(made[0].getModifiers()) && made[0].getParameterCount() == 0, "rule 1: the constructor");
  }

  private static void collect(Class<?> each, List<Class<?>> classes) {
    classes.add(each);
    for (Class<?> inner : each.getDeclaredClasses()) {
      int m = inner.getModifiers();
      check(Modifier.isStatic(m) && !Modifier.isPublic(m) && !Modifier.isProtected(m), "rule 1: " + inner);
      collect(inner, classes);
    }
  }

  private static void classForm(Class<?> each, Set<String> names) {
    int fields = 0;
    for (Field f : each.getDeclaredFields()) {
      if (!Modifier.isStatic(f.getModifiers())) {
        fields++;
        continue;
      }
      check(Modifier.isFinal(f.getModifiers()), "rule 5: " + f);
      check(f.getType().isPrimitive() || f.getType() == String.class, "rule 5: " + f);
    }
    check(fields <= 20, "rule 11: " + each + " has " + fields + " fields");
    for (Method m : each.getDeclaredMethods()) {
      boolean ofFace = each == LandByMap.class && Modifier.isPublic(m.getModifiers());
      check(ofFace || !names.contains(m.getName()), "rule 1: bears the name of a public one: " + m);
      check(m.getParameterCount() <= 7, "rule 11: " + m);
    }
  }

  private static String withoutTextsAndComments(String source) {
    String code = source.replaceAll("(?s)/\\*.*?\\*/", "");
    code = code.replaceAll("\"(\\\\.|[^\"\\\\])*\"", "\"\"").replaceAll("'(\\\\.|[^'\\\\])'", "' '");
    return code.replaceAll("//[^\n]*", "");
  }

  private static void words(String code) {
    String[] forbidden = {
      "finally", "synchronized", "assert", "protected", "package", "instanceof", "record", "native", "volatile", "transient",
      "var", "Object", "Integer", "Byte", "Short", "Character", "System\\.(?!arraycopy)", "Thread", "Random", "Double", "Float", "Long", "File", "getMessage", "hashCode",
      "toString", "equals", "NullPointerException", "ArrayIndexOutOfBoundsException", "IndexOutOfBoundsException",
      "ArithmeticException", "ClassCastException", "NegativeArraySizeException", "ArrayStoreException", "RuntimeException",
      "Exception", "Throwable", "Error", "[A-Za-z]*Exact", "static\\s*\\{", "->", "::", "\"\"\\s*\\+", "\\+\\s*\"\"",
    };
    for (String word : forbidden) {
      String bounded = Character.isLetter(word.charAt(0)) ? "\\b" + word + (Character.isLetter(word.charAt(word.length() - 1)) ? "\\b" : "") : word;
      Matcher m = Pattern.compile(bounded).matcher(code);
      if (m.find()) {
        check(false, "the source says " + m.group());
      }
    }
    Matcher imports = Pattern.compile("import ([^;]*);").matcher(code);
    while (imports.find()) {
      check(imports.group(1).equals("java.util.Arrays"), "rule 4: " + imports.group());
    }
    Matcher catches = Pattern.compile("catch \\((\\w+) ").matcher(code);
    while (catches.find()) {
      check(List.of("IllegalStateException", "IllegalArgumentException", "UnsupportedOperationException").contains(catches.group(1)), catches.group());
    }
  }

  /** Methods stand at one depth of blanks or two, and end at the same. */
  private static void lengths(String code) {
    String[] lines = code.split("\n");
    Pattern head = Pattern.compile("^( {4}| {8})[a-zA-Z][^;=]*\\)[^;=]*\\{$");
    int methods = 0;
    for (int i = 0; i < lines.length; i++) {
      Matcher m = head.matcher(lines[i]);
      if (!m.matches() || lines[i].trim().matches("(if|for|while|switch|do|else|try)\\b.*")) {
        continue;
      }
      methods++;
      int end = i;
      while (end < lines.length && !lines[end].equals(m.group(1) + "}")) {
        end++;
      }
      check(end - i + 1 <= 60, "rule 11: so many lines (" + (end - i + 1) + "): " + lines[i].trim());
    }
    check(methods > 60, "only " + methods + " methods were found");
  }
}
