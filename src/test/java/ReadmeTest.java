import java.io.IOException;
import java.lang.reflect.InvocationTargetException;
import java.lang.reflect.Method;
import java.lang.reflect.Modifier;
import java.nio.file.Files;
import java.nio.file.Path;
import java.util.ArrayList;
import java.util.List;
import java.util.TreeSet;
import java.util.regex.Matcher;
import java.util.regex.Pattern;

/** The examples of README.md are run as they stand there, so that what it shows stays true. */
public final class ReadmeTest {
  private static final Checks checks = new Checks("README.md");
  private static final Pattern CALL = Pattern.compile("x\\.(\\w+)\\((.*)\\);\\s*// (.+)");
  private static final Pattern ANSWER = Pattern.compile("(-?\\d+|true|false): .+");
  private static final Pattern THROWN = Pattern.compile("throws (\\w+): .+");
  private static final Pattern ROW = Pattern.compile("\\| `(\\w+)\\((.*?)\\)` \\| .+ \\|");

  public static void main(String[] args) throws IOException, IllegalAccessException {
    List<String> lines = Files.readAllLines(Path.of("README.md"));
    TreeSet<String> shown = runExamples(linesOfJava(lines));
    checks.due("calls that an example shows", shown.toString(), namesOfTheFace().toString());
    checks.due("calls that the table tells", formsOfTheTable(lines).toString(), formsOfTheFace().toString());
    checks.end();
  }

  private static List<String> linesOfJava(List<String> lines) {
    List<String> java = new ArrayList<>();
    boolean inside = false;
    for (String line : lines) {
      if (line.startsWith("```")) {
        inside = line.equals("```java");
      } else if (inside) {
        java.add(line);
      }
    }
    return java;
  }

  /** Answers the names of the calls that were made. */
  private static TreeSet<String> runExamples(List<String> java) throws IllegalAccessException {
    TreeSet<String> shown = new TreeSet<>();
    LeaseGates x = null;
    for (String line : java) {
      Matcher call = CALL.matcher(line);
      if (line.equals("LeaseGates x = new LeaseGates();")) {
        x = new LeaseGates();
      } else if (x != null && call.matches()) {
        runLine(x, line, call);
        shown.add(call.group(1));
      } else {
        checks.tell("this line can't be run: " + line);
      }
    }
    return shown;
  }

  private static void runLine(LeaseGates x, String line, Matcher call) throws IllegalAccessException {
    Object[] numbers = numbersOf(call.group(2));
    Method method = methodOf(call.group(1), numbers.length);
    if (method == null) {
      checks.tell("there is no such call: " + line);
      return;
    }
    checks.due(line, answerOf(x, method, numbers), shownAnswer(call.group(3)));
  }

  private static Object[] numbersOf(String text) {
    if (text.isEmpty()) {
      return new Object[0];
    }
    String[] parts = text.split(", ");
    Object[] numbers = new Object[parts.length];
    for (int i = 0; i < parts.length; i++) {
      numbers[i] = parts[i].equals("LeaseGates.NONE") ? LeaseGates.NONE : Integer.parseInt(parts[i]);
    }
    return numbers;
  }

  private static Method methodOf(String name, int arguments) {
    for (Method method : face()) {
      if (method.getName().equals(name) && method.getParameterCount() == arguments) {
        return method;
      }
    }
    return null;
  }

  /** What a line says that its call answers: a call that answers nothing has words alone behind it. */
  private static String shownAnswer(String comment) {
    Matcher answer = ANSWER.matcher(comment);
    Matcher thrown = THROWN.matcher(comment);
    if (thrown.matches()) {
      return "throws " + thrown.group(1);
    }
    return answer.matches() ? answer.group(1) : "nothing";
  }

  private static String answerOf(LeaseGates x, Method method, Object[] numbers) throws IllegalAccessException {
    try {
      Object answer = method.invoke(x, numbers);
      return method.getReturnType() == void.class ? "nothing" : answer.toString();
    } catch (InvocationTargetException e) {
      return "throws " + e.getCause().getClass().getSimpleName();
    }
  }

  private static TreeSet<String> formsOfTheTable(List<String> lines) {
    TreeSet<String> forms = new TreeSet<>();
    for (String line : lines) {
      Matcher row = ROW.matcher(line);
      if (row.matches()) {
        forms.add(row.group(1) + " of " + (row.group(2).isEmpty() ? 0 : row.group(2).split(", ").length));
      }
    }
    return forms;
  }

  private static TreeSet<String> formsOfTheFace() {
    TreeSet<String> forms = new TreeSet<>();
    for (Method method : face()) {
      forms.add(method.getName() + " of " + method.getParameterCount());
    }
    return forms;
  }

  private static TreeSet<String> namesOfTheFace() {
    TreeSet<String> names = new TreeSet<>();
    for (Method method : face()) {
      names.add(method.getName());
    }
    return names;
  }

  private static List<Method> face() {
    List<Method> face = new ArrayList<>();
    for (Method method : LeaseGates.class.getDeclaredMethods()) {
      if (Modifier.isPublic(method.getModifiers())) {
        face.add(method);
      }
    }
    return face;
  }
}
