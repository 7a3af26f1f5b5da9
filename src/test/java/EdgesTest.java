import java.io.IOException;
import java.lang.reflect.InvocationTargetException;
import java.lang.reflect.Method;
import java.nio.file.Files;
import java.nio.file.Path;
import java.util.ArrayList;
import java.util.Comparator;
import java.util.List;
import java.util.TreeSet;
import java.util.regex.Matcher;
import java.util.regex.Pattern;

/**
 * Runs the tests of boundary cases: each holds one sentence of the document on both sides of its boundary. Its name
 * begins with its promise; where the sentence stands among the terms, the term follows. Each promise and each term
 * has one at least.
 */
public final class EdgesTest {
  private static final int TERMS = 4;
  private static final int PROMISES = 37;
  private static final Class<?>[] HOLDERS = {RiverEdges.class, LookEdges.class, AheadEdges.class, BridgeEdges.class};
  private static final Pattern NAME = Pattern.compile("(promise[1-9][0-9]*)_(?:(term[1-9])_)?[a-zA-Z0-9]+");
  private static final Path DOCUMENT = Path.of("../shared/DOC.md");

  public static void main(String[] args) throws Exception {
    List<Method> tests = tests();
    int wrong = 0;
    for (Method test : tests) wrong += faultsOf(test);
    wrong += lacking(tests);
    tellWordsNotFound(tests);
    System.out.println(wrong == 0 ? tests.size() + " edges hold" : wrong + " faults at the edges");
    if (wrong != 0) System.exit(1);
  }

  private static List<Method> tests() {
    List<Method> tests = new ArrayList<>();
    for (Class<?> holder : HOLDERS) {
      for (Method m : holder.getDeclaredMethods()) if (m.isAnnotationPresent(Edge.Says.class)) tests.add(m);
    }
    tests.sort(Comparator.comparing(Method::getName));
    return tests;
  }

  private static int faultsOf(Method test) throws IllegalAccessException {
    List<String> faults = new ArrayList<>();
    try {
      test.invoke(null);
    } catch (InvocationTargetException e) {
      faults.add("threw " + e.getCause());
    }
    faults.addAll(Edge.takeFaults());
    for (String fault : faults) System.out.println(test.getName() + ": " + fault);
    return faults.size();
  }

  /** Promises and terms without a test, and tests whose name does not begin with a promise. */
  private static int lacking(List<Method> tests) {
    TreeSet<String> lacking = new TreeSet<>();
    for (int i = 1; i <= TERMS; i++) lacking.add("term" + i);
    for (int i = 1; i <= PROMISES; i++) lacking.add("promise" + i);
    int wrong = 0;
    for (Method test : tests) {
      Matcher name = NAME.matcher(test.getName());
      if (!name.matches()) {
        System.out.println(test.getName() + " does not begin with its promise");
        wrong++;
        continue;
      }
      lacking.remove(name.group(1));
      if (name.group(2) != null) lacking.remove(name.group(2));
    }
    for (String name : lacking) System.out.println("there is no test of " + name);
    return wrong + lacking.size();
  }

  /** Tells, where the document can be read, which words it does not say (any more); that alone is no fault of the class. */
  private static void tellWordsNotFound(List<Method> tests) throws IOException {
    if (!Files.isReadable(DOCUMENT)) return;
    String document = oneLine(Files.readString(DOCUMENT));
    for (Method test : tests) {
      Matcher name = NAME.matcher(test.getName());
      if (!name.matches()) continue;
      String words = test.getAnnotation(Edge.Says.class).value();
      String place = name.group(2) == null ? promise(document, name.group(1)) : terms(document, name.group(2));
      if (!place.contains(oneLine(words))) System.out.println(test.getName() + ": the document does not say \"" + words + "\"");
    }
  }
  private static String oneLine(String text) {
    return text.replaceAll("\\s+", " ");
  }
  private static String promise(String document, String name) {
    return between(document, "## Promise " + name.substring("promise".length()) + ":", " ## ");
  }
  private static String terms(String document, String name) {
    int number = Integer.parseInt(name.substring("term".length()));
    String next = number == TERMS ? " Ahead of the calls" : " " + (number + 1) + ". ";
    return between(between(document, "## Terms", " ## "), " " + number + ". ", next);
  }
  private static String between(String text, String first, String behind) {
    int from = text.indexOf(first);
    if (from < 0) return "";
    int to = text.indexOf(behind, from + first.length());
    return text.substring(from, to < 0 ? text.length() : to);
  }
}
