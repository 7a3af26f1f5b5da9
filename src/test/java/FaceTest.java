import java.lang.reflect.Constructor;
import java.lang.reflect.Field;
import java.lang.reflect.Method;
import java.lang.reflect.Modifier;
import java.nio.file.Files;
import java.nio.file.Path;
import java.util.ArrayList;
import java.util.Arrays;
import java.util.List;
import java.util.TreeSet;
import java.util.regex.Matcher;
import java.util.regex.Pattern;

/** The face of the document and no more, and those rules of LANGUAGE.md that a look at the class and its text can tell. */
public final class FaceTest {
  private static final String FACE = "flows:5 flow:1 bed:0 pier:5 tree:3 hole:4 when:3 kept:2 minds:1 shared:1 look:5 back:2 as:1 bars:1 "
      + "weighs:1 blame:1 state:2 ends:2 share:3 worst:3 next:4 plan:6 settles:7 prove:2 check:1 lay:1 proof:2 bridge:2 truth:2 shut:3 "
      + "run:4 best:4 offer:3 choose:2 count:1 row:1";
  private static int wrong = 0;

  private static void due(boolean right, String what) {
    if (!right) { wrong++; System.out.println(what); }
  }

  public static void main(String[] args) throws Exception {
    face();
    insides();
    text(Files.readString(Path.of("src/main/java/RiverFeet.java")));
    System.out.println(wrong == 0 ? "the face is as due" : wrong + " things are not as due");
    if (wrong != 0) System.exit(1);
  }

  private static void face() throws Exception {
    Class<?> c = RiverFeet.class;
    due(Modifier.isPublic(c.getModifiers()) && Modifier.isFinal(c.getModifiers()), "the class is public and final");
    Constructor<?>[] makers = c.getDeclaredConstructors();
    due(makers.length == 1 && makers[0].getParameterCount() == 0 && Modifier.isPublic(makers[0].getModifiers()), "one public constructor");
    TreeSet<String> got = new TreeSet<>();
    TreeSet<String> names = new TreeSet<>();
    for (Method m : c.getDeclaredMethods()) {
      if (Modifier.isPrivate(m.getModifiers())) continue;
      got.add(m.getName() + ":" + m.getParameterCount());
      names.add(m.getName());
      due(Modifier.isPublic(m.getModifiers()) && !Modifier.isStatic(m.getModifiers()), m + " is public");
      due(m.getReturnType() == (m.getName().equals("back") ? boolean.class : int.class), m + " answers as the document says");
      for (Class<?> p : m.getParameterTypes()) due(p == int.class, m + " takes ints");
    }
    due(got.equals(new TreeSet<>(Arrays.asList(FACE.split(" ")))), "the methods are " + got);
    due(Arrays.asList(c.getMethod("row", int.class).getExceptionTypes()).equals(List.of(java.util.NoSuchElementException.class)), "row's throws");
    for (Field f : c.getDeclaredFields()) {
      boolean none = f.getName().equals("NONE") && Modifier.isPublic(f.getModifiers()) && Modifier.isFinal(f.getModifiers());
      due(none || Modifier.isPrivate(f.getModifiers()), f + " is private");
      due(!Modifier.isStatic(f.getModifiers()) || Modifier.isFinal(f.getModifiers()), f + " is final");
    }
    for (Class<?> k : classes()) {
      for (Method m : k.getDeclaredMethods()) {
        boolean own = k == c && Modifier.isPublic(m.getModifiers());
        due(own || !names.contains(m.getName()), m + " bears the name of a method of the face");
        due(m.getParameterCount() <= 7, m + " takes seven at most");
      }
    }
  }

  private static List<Class<?>> classes() {
    List<Class<?>> all = new ArrayList<>(List.of(RiverFeet.class));
    all.addAll(Arrays.asList(RiverFeet.class.getDeclaredClasses()));
    return all;
  }

  private static void insides() {
    due(classes().size() <= 12, "twelve classes at most");
    for (Class<?> k : classes()) {
      int fields = 0;
      for (Field f : k.getDeclaredFields()) {
        if (Modifier.isStatic(f.getModifiers())) due(f.getType().isPrimitive(), f + " is a constant"); else fields++;
      }
      due(fields <= 20, k + " has twenty fields at most");
      if (k != RiverFeet.class) due(Modifier.isPrivate(k.getModifiers()) && Modifier.isStatic(k.getModifiers()), k + " is private and static");
    }
  }

  private static void text(String source) {
    String code = source.replaceAll("(?s)/\\*.*?\\*/", "").replaceAll("//[^\n]*", "").replaceAll("\"[^\"\n]*\"", "\"\"");
    for (int i = 0; i < source.length(); i++) due(source.charAt(i) < 128, "the sign at " + i + " is a plain one");
    String[] no = {"->", "::", "\\btry\\b", "\\bcatch\\b", "\\bfinally\\b", "\\bsynchronized\\b", "\\bassert\\b", "Exact\\b", "\\bSystem\\b",
        "\\bRandom\\b", "\\bThread\\b", "\\bdouble\\b", "\\bfloat\\b", "\\bString\\b", "static \\{", "\\bwhile\\b", "\\bgetClass\\b",
        "\\bhashCode\\b", "\\btoString\\b", "\\bequals\\b", "\\bvar\\b", "\\bpackage\\b", "\\bprotected\\b", "for \\(;"};
    for (String n : no) due(!Pattern.compile(n).matcher(code).find(), "the text has " + n);
    TreeSet<String> imports = new TreeSet<>();
    Matcher m = Pattern.compile("import ([\\w.]+);").matcher(code);
    for (; m.find(); ) imports.add(m.group(1));
    due(imports.equals(new TreeSet<>(List.of("java.util.ArrayList", "java.util.Arrays", "java.util.NoSuchElementException"))), "imports " + imports);
    due(code.split("\\bthrow\\b", -1).length == 2, "one throw");
    lengths(code);
  }

  private static void lengths(String code) {
    String[] lines = code.split("\n");
    Pattern head = Pattern.compile("^( {4}| {8})(?! )[\\w<>\\[\\] ]+\\(.*");
    for (int i = 0; i < lines.length; i++) {
      Matcher m = head.matcher(lines[i]);
      if (!m.matches()) continue;
      int end = i;
      for (; end < lines.length && !lines[end].equals(m.group(1) + "}"); end++) { }
      due(lines[i].contains("{") == false || end - i < 60, "too long: " + lines[i]);
    }
  }
}
