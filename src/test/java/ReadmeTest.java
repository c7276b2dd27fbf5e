import java.io.IOException;
import java.lang.reflect.Method;
import java.lang.reflect.Modifier;
import java.nio.file.DirectoryStream;
import java.nio.file.Files;
import java.nio.file.Path;
import java.util.ArrayList;
import java.util.HashMap;
import java.util.List;
import java.util.Map;
import java.util.Set;
import java.util.TreeSet;
import java.util.regex.Matcher;
import java.util.regex.Pattern;

/** What README.md shows is true of the class; run from the project's folder, as .ci/run does. */
public final class ReadmeTest extends DeskCheck {
  private static final String MAKING = "PropagationDesk desk = new PropagationDesk();";
  // A name for the answer, the call, its arguments, and what the comment says that it answers.
  private static final Pattern CALLING = Pattern.compile(
      "(?:int (\\w+) = )?desk\\.(\\w+)\\(([^)]*)\\); *// (?:(-?\\d+|true|false)(?=:|$))?.*");

  public static void main(String[] args) throws IOException, ReflectiveOperationException {
    List<String> lines = Files.readAllLines(Path.of("README.md"));
    examples(lines);
    calls(table(lines, "| call |"));
    classes(table(lines, "| class |"));
    modes(table(lines, "| mode |"));
    steps(table(lines, "| op |"));
    tests(table(lines, "| test |"));
    finish();
  }

  private static void examples(List<String> lines) throws ReflectiveOperationException {
    PropagationDesk desk = null;
    Map<String, Integer> names = new HashMap<>();
    boolean inside = false;
    int shown = 0;
    for (String line : lines) {
      if (line.startsWith("```")) {
        inside = line.equals("```java");
      } else if (inside && line.equals(MAKING)) {
        desk = new PropagationDesk();
        names.clear();
        shown++;
      } else if (inside) {
        example(desk, names, line);
      }
    }
    due("README.md: examples", shown, 3);
  }

  private static void example(PropagationDesk desk, Map<String, Integer> names, String line)
      throws ReflectiveOperationException {
    Matcher parts = CALLING.matcher(line);
    boolean understood = parts.matches();
    due("README.md: this line can be run: " + line, understood, true);
    if (!understood) {
      return;
    }
    Object answer = answer(desk, names, parts.group(2), parts.group(3).trim());
    if (parts.group(4) != null) {
      due("README.md: " + line + " (" + answer + ")", answer.toString().equals(parts.group(4)), true);
    } else {
      due("README.md: refused: " + line, answer.equals(-1) || answer.equals(false), false);
    }
    if (parts.group(1) != null) {
      names.put(parts.group(1), (Integer) answer);
    }
  }

  private static Object answer(PropagationDesk desk, Map<String, Integer> names, String name, String given)
      throws ReflectiveOperationException {
    String[] words = given.isEmpty() ? new String[0] : given.split(", *");
    Object[] values = new Object[words.length];
    for (int i = 0; i < words.length; i++) {
      values[i] = argument(names, words[i]);
    }
    return faceMethod(name).invoke(desk, values);
  }

  private static Object argument(Map<String, Integer> names, String word) {
    if (word.equals("true") || word.equals("false")) {
      return word.equals("true");
    }
    return names.containsKey(word) ? names.get(word) : Integer.valueOf(word);
  }

  private static Method faceMethod(String name) {
    for (Method method : PropagationDesk.class.getDeclaredMethods()) {
      if (Modifier.isPublic(method.getModifiers()) && method.getName().equals(name)) {
        return method;
      }
    }
    throw new IllegalArgumentException(name);
  }

  /** The rows of a table, without its head; each row its cells. */
  private static List<String[]> table(List<String> lines, String head) {
    List<String[]> rows = new ArrayList<>();
    boolean inside = false;
    for (String line : lines) {
      inside = line.startsWith(head) || inside && line.startsWith("|");
      if (inside && !line.startsWith(head) && !line.startsWith("|---")) {
        rows.add(cells(line));
      }
    }
    return rows;
  }

  private static String[] cells(String line) {
    String[] cells = line.substring(1).split("\\|");
    for (int i = 0; i < cells.length; i++) {
      cells[i] = cells[i].trim();
    }
    return cells;
  }

  private static void calls(List<String[]> rows) {
    Set<String> told = new TreeSet<>();
    for (String[] row : rows) {
      String call = row[0].replace("`", "");
      int open = call.indexOf('(');
      boolean takesNone = call.endsWith("()");
      told.add(call.substring(0, open) + " " + (takesNone ? 0 : call.split(",").length));
    }
    Set<String> there = new TreeSet<>();
    for (Method method : PropagationDesk.class.getDeclaredMethods()) {
      if (Modifier.isPublic(method.getModifiers())) {
        there.add(method.getName() + " " + method.getParameterCount());
      }
    }
    due("README.md tells the calls " + told + ", there are " + there, told.equals(there), true);
    due("README.md tells each call once", rows.size(), there.size());
  }

  private static void classes(List<String[]> rows) {
    PropagationDesk desk = new PropagationDesk();
    due("README.md: classes", rows.size(), desk.size(0));
    for (int c = 0; c < rows.size(); c++) {
      String[] row = rows.get(c);
      due("README.md: class " + row[1], Integer.parseInt(row[0]), c);
      if (c > 0) {
        due("README.md: " + row[1] + " is under " + row[2], isJustUnder(c, Integer.parseInt(row[2])), true);
      }
    }
  }

  /** A rule for the parent is nearer than one for any other class but c itself. */
  private static boolean isJustUnder(int c, int parent) {
    PropagationDesk desk = new PropagationDesk();
    boolean nearest = desk.is(c, parent) && c != parent;
    for (int other = 0; other < desk.size(0) && nearest; other++) {
      PropagationDesk fresh = new PropagationDesk();
      int m = fresh.method(REQUIRED);
      fresh.rule(m, other, other == parent);
      fresh.rule(m, parent, true);
      nearest = other == c || fresh.rolls(m, c);
    }
    return nearest;
  }

  private static void modes(List<String[]> rows) {
    due("README.md: modes", rows.size(), 7);
    Map<String, String> within = Map.of(
        "joins it", "7 1 1 0",
        "suspends it, begins one", "0 2 1 0",
        "marks it", "0 1 0 1",
        "suspends it, goes plainly", "0 1 0 0",
        "PRESENT comes out", "6 1 1 0");
    Map<String, String> alone = Map.of(
        "begins one", "0 1 1 0",
        "goes plainly", "0 0 0 0",
        "MISSING comes out", "5 0 0 0");
    for (int mode = 0; mode < rows.size(); mode++) {
      String[] row = rows.get(mode);
      due("README.md: mode " + row[1], Integer.parseInt(row[0]), mode);
      due("README.md: " + row[1] + " " + row[2], trace(mode, true).equals(within.get(row[2])), true);
      due("README.md: " + row[1] + " " + row[3], trace(mode, false).equals(alone.get(row[3])), true);
    }
  }

  /** What invoke answers for a method that does ONLY, and what was begun, rolled back, gone back to. */
  private static String trace(int mode, boolean within) {
    PropagationDesk desk = new PropagationDesk();
    int top = make(desk, mode, ONLY, 0, 0);
    if (within) {
      top = make(desk, REQUIRED, CALL, top, -1);
    }
    int answer = desk.invoke(top);
    return answer + " " + desk.count(BEGUN) + " " + desk.count(ROLLED_BACK) + " " + desk.count(RESTORED);
  }

  /** An empty cell is an argument that is not looked at, any other one an argument that is. */
  private static void steps(List<String[]> rows) {
    due("README.md: steps", rows.size(), 7);
    for (int op = 0; op < rows.size(); op++) {
      String[] row = rows.get(op);
      due("README.md: step " + row[1], Integer.parseInt(row[0]), op);
      due("README.md: a of " + row[1], takes(op, MOST, 0), row[2].isEmpty());
      boolean anyNumber = row[3].isEmpty() || row[3].equals("a value") || row[3].equals("a number");
      due("README.md: b of " + row[1], takes(op, 0, MOST), anyNumber);
      due("README.md: least a and b of " + row[1], takes(op, 0, 0), true);
    }
  }

  private static boolean takes(int op, int a, int b) {
    PropagationDesk desk = withMethods(2);
    return desk.step(1, op, a, b) == 1;
  }

  private static void tests(List<String[]> rows) throws IOException {
    Set<String> told = new TreeSet<>();
    for (String[] row : rows) {
      told.add(row[0] + ".java");
    }
    Set<String> there = new TreeSet<>();
    try (DirectoryStream<Path> files = Files.newDirectoryStream(Path.of("src/test/java"), "*Test.java")) {
      for (Path file : files) {
        there.add(file.getFileName().toString());
      }
    }
    due("README.md tells the tests " + told + ", there are " + there, told.equals(there), true);
  }
}
