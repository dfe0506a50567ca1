import java.io.IOException;
import java.lang.reflect.Method;
import java.lang.reflect.Modifier;
import java.nio.charset.StandardCharsets;
import java.nio.file.Files;
import java.nio.file.Path;
import java.util.List;
import java.util.TreeSet;
import java.util.regex.Matcher;
import java.util.regex.Pattern;

/** What README.md says of the class: each line of its Java is run, and every call is among them. */
public final class ReadmeTest {
  private static final String NEW = "TrustTin x = new TrustTin();";
  private static final Pattern CALL = Pattern.compile("x\\.(\\w+)\\(([-0-9, ]*)\\); +// (-?[0-9]+): .+");
  private static final Pattern FEED =
      Pattern.compile("for \\(byte b : \"([^\"]*)\"\\.getBytes\\(\\)\\) x\\.feed\\(b, 1\\);");
  private static final Pattern FINDING = Pattern.compile("\\| (-[0-9]+) \\| ([A-Z]+): .+ \\| ([0-9]) \\|");
  private static final String[] FINDINGS = {"BEYOND", "FULL", "KIND", "NONE", "STATE", "MISSING", "SIZE"};

  private static TrustTin x = new TrustTin();
  private static final TreeSet<String> called = new TreeSet<>();

  public static void main(String[] args) throws ReflectiveOperationException, IOException {
    List<String> lines = Files.readAllLines(Path.of("README.md"), StandardCharsets.US_ASCII);
    boolean isJava = false;
    int findings = 0;
    for (String line : lines) {
      if (line.startsWith("```")) {
        isJava = line.equals("```java");
      } else if (isJava) {
        follow(line);
      }
      Matcher row = FINDING.matcher(line);
      if (row.matches() && findings < FINDINGS.length) {
        Dues.due(44, line, Integer.parseInt(row.group(1)), Dues.BEYOND - findings);
        Dues.due(44, line, Integer.parseInt(row.group(3)), findings);
        Dues.due(44, line, row.group(2).equals(FINDINGS[findings]) ? 1 : 0, 1);
        findings++;
      }
    }
    Dues.due(44, "findings of README.md", findings, FINDINGS.length);
    everyCallIsThere();
    Dues.end();
  }

  private static void follow(String line) throws ReflectiveOperationException {
    Matcher call = CALL.matcher(line);
    Matcher feed = FEED.matcher(line);
    if (line.equals(NEW)) {
      x = new TrustTin();
    } else if (feed.matches()) {
      Dues.feed(x, feed.group(1));
    } else if (call.matches()) {
      Dues.due(0, line, answer(call.group(1), call.group(2)), Integer.parseInt(call.group(3)));
    } else {
      Dues.due(0, "a line of README.md that can't be followed: " + line, 1, 0);
    }
  }

  private static int answer(String name, String told) throws ReflectiveOperationException {
    String[] parts = told.isEmpty() ? new String[0] : told.split(", ");
    Class<?>[] types = new Class<?>[parts.length];
    Object[] args = new Object[parts.length];
    for (int i = 0; i < parts.length; i++) {
      types[i] = int.class;
      args[i] = Integer.parseInt(parts[i]);
    }
    called.add(name);
    return (Integer) TrustTin.class.getMethod(name, types).invoke(x, args);
  }

  private static void everyCallIsThere() {
    for (Method m : TrustTin.class.getDeclaredMethods()) {
      if (Modifier.isPublic(m.getModifiers())) {
        Dues.due(0, m.getName() + " in README.md", called.contains(m.getName()) ? 1 : 0, 1);
      }
    }
  }
}
