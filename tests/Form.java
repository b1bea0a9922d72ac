import java.io.IOException;
import java.lang.reflect.Constructor;
import java.lang.reflect.Field;
import java.lang.reflect.Method;
import java.lang.reflect.Modifier;
import java.nio.file.Files;
import java.nio.file.Path;
import java.util.ArrayList;
import java.util.List;
import java.util.Set;
import java.util.TreeSet;
import java.util.regex.Matcher;
import java.util.regex.Pattern;

/** The face of the class, and those rules of LANGUAGE.md that can be seen from outside or in the source. */
public final class Form {
  private static final Path SOURCE = Path.of("src/main/java/LandByMap.java");
  private static final String[] FACE = {
    "int land(int)", "int cell(int, int)", "int state(int)", "int set(int, int)", "int says(int, int)", "int map(int)",
    "int water(int)", "int hours(int, int)", "int haul(int, int)", "int like(int)", "int least()", "int works(int)",
    "int dig(int)", "int drawer(int, int)", "int draws(int, int)", "int year()", "int still()", "int rings()",
    "int seeded(int, int, int)", "int seam(int, int, int, boolean)", "int blot(int, int)", "int harm(int, int)",
    "int chosen(int)", "int judge(int)", "int image()", "int restore()", "int count(int)", "int keep(int, int, int)",
    "int row(int, int, int)", "int put(int, int, int)", "long element(int, int)", "int copy(int, int, int, int, int)",
    "int price(int)", "int toss(int)",
  };
  private static final List<String> IMPORTS = List.of(
    "java.util.Arrays", "java.util.ArrayList", "java.util.List", "java.util.Iterator", "java.util.NoSuchElementException");
  private static final List<String> EXCEPTIONS = List.of(
    "IllegalStateException", "IllegalArgumentException", "IndexOutOfBoundsException", "ArithmeticException",
    "UnsupportedOperationException", "NoSuchElementException", "RuntimeException");
  private static final List<String> OF_THE_MACHINE = List.of(
    "IndexOutOfBoundsException", "ArithmeticException", "RuntimeException");
  private static int wrong = 0;

  public static void main(String[] args) throws IOException {
    face();
    Set<String> names = new TreeSet<>();
    for (String call : FACE) {
      names.add(call.substring(call.indexOf(' ') + 1, call.indexOf('(')));
    }
    List<Class<?>> classes = new ArrayList<>();
    collect(LandByMap.class, classes);
    check(classes.size() <= 12, "rule 11: there are " + classes.size() + " classes");
    for (Class<?> each : classes) {
      classForm(each, names);
    }
    String code = withoutTextsAndComments(Files.readString(SOURCE));
    words(code);
    lengths(code);
    System.out.println(wrong == 0 ? "the form is kept" : wrong + " faults of form");
    if (wrong != 0) {
      System.exit(1);
    }
  }

  private static void check(boolean holds, String fault) {
    if (!holds) {
      wrong++;
      System.out.println(fault);
    }
  }

  private static String simple(Class<?>[] types) {
    StringBuilder text = new StringBuilder();
    for (Class<?> type : types) {
      text.append(text.length() == 0 ? "" : ", ").append(type.getSimpleName());
    }
    return text.toString();
  }

  private static void face() {
    Set<String> due = new TreeSet<>(List.of(FACE));
    Set<String> got = new TreeSet<>();
    Class<?> main = LandByMap.class;
    check(Modifier.isPublic(main.getModifiers()) && Modifier.isFinal(main.getModifiers()), "rule 1: the class is not public and final");
    for (Method m : main.getDeclaredMethods()) {
      if (!Modifier.isPrivate(m.getModifiers())) {
        check(Modifier.isPublic(m.getModifiers()), "rule 1: " + m);
        check(!Modifier.isStatic(m.getModifiers()), "rule 1: " + m);
        got.add(m.getReturnType().getSimpleName() + " " + m.getName() + "(" + simple(m.getParameterTypes()) + ")");
        String thrown = m.getName().equals("element") ? "IllegalArgumentException, IllegalStateException" : "";
        check(simple(m.getExceptionTypes()).equals(thrown), "the face: what " + m + " throws");
      }
    }
    check(got.equals(due), "rule 1: the face is " + got);
    for (Field f : main.getDeclaredFields()) {
      check(Modifier.isPrivate(f.getModifiers()), "rule 1: " + f);
    }
    Constructor<?>[] made = main.getDeclaredConstructors();
    check(made.length == 1 && Modifier.isPublic(made[0].getModifiers()) && made[0].getParameterCount() == 0, "rule 1: the constructor");
  }

  private static void collect(Class<?> each, List<Class<?>> classes) {
    classes.add(each);
    for (Class<?> inner : each.getDeclaredClasses()) {
      int m = inner.getModifiers();
      check(Modifier.isStatic(m) && !Modifier.isPublic(m) && !Modifier.isProtected(m), "rule 1: " + inner);
      collect(inner, classes);
    }
  }

  private static void classForm(Class<?> each, Set<String> names) {
    int fields = 0;
    for (Field f : each.getDeclaredFields()) {
      if (f.isSynthetic()) {
        continue;
      }
      if (!Modifier.isStatic(f.getModifiers())) {
        fields++;
        continue;
      }
      check(Modifier.isFinal(f.getModifiers()), "rule 5: " + f);
      check(f.isEnumConstant() || isConstant(f.getType(), each), "rule 5: " + f);
    }
    check(fields <= 20, "rule 11: " + each + " has " + fields + " fields");
    for (Method m : each.getDeclaredMethods()) {
      boolean ofFace = each == LandByMap.class && Modifier.isPublic(m.getModifiers());
      check(ofFace || !names.contains(m.getName()), "rule 1: bears the name of a public one: " + m);
      check(m.getParameterCount() <= 7, "rule 11: " + m);
    }
  }

  /** Of rule 5: numbers, Strings, rows of whole numbers, and what an enum's values() are kept in. */
  private static boolean isConstant(Class<?> type, Class<?> within) {
    List<Class<?>> rows = List.of(int[].class, long[].class, char[].class, byte[].class);
    return type.isPrimitive() || type == String.class || rows.contains(type) || (within.isEnum() && type.getComponentType() == within);
  }

  private static String withoutTextsAndComments(String source) {
    String code = source.replaceAll("(?s)/\\*.*?\\*/", "");
    code = code.replaceAll("\"(\\\\.|[^\"\\\\])*\"", "\"\"").replaceAll("'(\\\\.|[^'\\\\])'", "' '");
    return code.replaceAll("//[^\n]*", "");
  }

  private static boolean found(String pattern, String code) {
    return Pattern.compile(pattern).matcher(code).find();
  }

  private static void words(String code) {
    String[] forbidden = {
      "finally", "synchronized", "assert", "protected", "package", "native", "volatile", "transient",
      "var", "Object", "Byte", "Short", "Character", "Boolean", "Double", "Float",
      "Thread", "Random", "File", "getMessage", "hashCode", "[A-Za-z]*Exact",
    };
    for (String word : forbidden) {
      check(!found("\\b" + word + "\\b", code), "the source says what it may not: " + word);
    }
    String[] shapes = {"\\bSystem\\.(?!arraycopy)", "\\bstatic\\s*\\{", "->", "::", "\"\"\\s*\\+", "\\+\\s*\"\""};
    for (String shape : shapes) {
      check(!found(shape, code), "the source has what it may not: " + shape);
    }
    Matcher imports = Pattern.compile("import ([^;]*);").matcher(code);
    while (imports.find()) {
      check(IMPORTS.contains(imports.group(1)), "rule 4: " + imports.group());
    }
    Matcher thrown = Pattern.compile("\\b[A-Za-z]*(Exception|Error|Throwable)\\b").matcher(code);
    while (thrown.find()) {
      check(EXCEPTIONS.contains(thrown.group()), "rule 6: " + thrown.group());
    }
    Matcher catches = Pattern.compile("catch \\(([^)]*) ").matcher(code);
    while (catches.find()) {
      check(!OF_THE_MACHINE.contains(catches.group(1)), "what the machine throws is caught: " + catches.group(1));
    }
  }

  /** A method is what stands in braces behind a bracket that is not that of a loop, a choice or a catch. */
  private static void lengths(String code) {
    List<Integer> starts = new ArrayList<>();
    List<String> heads = new ArrayList<>();
    int line = 1;
    int brackets = 0;
    StringBuilder head = new StringBuilder();
    for (char sign : code.toCharArray()) {
      line += sign == '\n' ? 1 : 0;
      brackets += sign == '(' ? 1 : sign == ')' ? -1 : 0;
      if (sign == '{') {
        starts.add(line);
        heads.add(head.toString().trim());
      } else if (sign == '}' && !heads.isEmpty()) {
        String ended = heads.remove(heads.size() - 1);
        int many = line - starts.remove(starts.size() - 1) + 1;
        check(!isMethod(ended) || many <= 60, "rule 11: so many lines (" + many + "): " + ended);
      }
      if (brackets == 0 && (sign == '{' || sign == '}' || sign == ';')) {
        head.setLength(0);
      } else {
        head.append(sign);
      }
    }
  }

  private static boolean isMethod(String head) {
    return head.matches("(?s).*\\)(\\s*throws [\\w, ]+)?") && !head.matches("(?s)(\\w+:\\s*)?(else |\\}|)\\s*(if|for|while|switch|catch|try|do|else)\\b.*");
  }
}
