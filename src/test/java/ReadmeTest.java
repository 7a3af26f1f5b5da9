import java.lang.reflect.InvocationTargetException;
import java.lang.reflect.Method;
import java.lang.reflect.Modifier;
import java.nio.file.Files;
import java.nio.file.Path;
import java.util.TreeSet;
import java.util.regex.Matcher;
import java.util.regex.Pattern;

/** The calls that README.md shows answer what it says, in their order, and each call of the face is shown. */
public final class ReadmeTest {
  private static final Pattern CALL = Pattern.compile("x\\.(\\w+)\\(([-0-9, ]*)\\); +// (\\w+|-[0-9]+)(:.*)?");
  private static final TreeSet<String> notShown = new TreeSet<>();
  private static int wrong = 0;
  private static RiverFeet x = new RiverFeet();

  public static void main(String[] args) throws Exception {
    for (Method m : RiverFeet.class.getDeclaredMethods()) if (Modifier.isPublic(m.getModifiers())) notShown.add(m.getName());
    boolean java = false;
    for (String line : Files.readAllLines(Path.of("README.md"))) {
      if (line.startsWith("```")) java = line.equals("```java");
      else if (java) show(line);
    }
    for (String name : notShown) fault("README.md does not show " + name);
    System.out.println(wrong == 0 ? "README.md says what is so" : wrong + " faults of README.md");
    if (wrong != 0) System.exit(1);
  }

  private static void fault(String what) {
    wrong++;
    System.out.println(what);
  }

  private static void show(String line) throws Exception {
    Matcher call = CALL.matcher(line);
    if (line.equals("RiverFeet x = new RiverFeet();")) {
      x = new RiverFeet();
    } else if (call.matches()) {
      notShown.remove(call.group(1));
      String want = call.group(3).equals("NONE") ? String.valueOf(RiverFeet.NONE) : call.group(3);
      String got = answer(call.group(1), call.group(2).isBlank() ? new String[0] : call.group(2).split(", *"));
      if (!got.equals(want)) fault(line + " answers " + got);
    } else {
      fault("no call with its answer: " + line);
    }
  }

  private static String answer(String name, String[] numbers) throws Exception {
    Class<?>[] types = new Class<?>[numbers.length];
    Object[] values = new Object[numbers.length];
    for (int i = 0; i < numbers.length; i++) {
      types[i] = int.class;
      values[i] = Integer.valueOf(numbers[i].trim());
    }
    try {
      return String.valueOf(RiverFeet.class.getMethod(name, types).invoke(x, values));
    } catch (InvocationTargetException e) {
      return e.getCause().getClass().getSimpleName();
    }
  }
}
