import java.io.IOException;
import java.lang.management.ManagementFactory;
import java.lang.reflect.Constructor;
import java.lang.reflect.Field;
import java.lang.reflect.Method;
import java.lang.reflect.Modifier;
import java.nio.file.Files;
import java.nio.file.Path;
import java.util.ArrayList;
import java.util.Arrays;
import java.util.List;
import java.util.Random;
import java.util.TreeMap;
import java.util.TreeSet;
import java.util.regex.Matcher;
import java.util.regex.Pattern;

/** The rules of LANGUAGE.md that can be asked of the class and its source: it runs where .ci/run runs it. */
public final class LanguageTest {
  private static final String FACE = "drinker2 of2 change3 room2 empty0 taken1 forgive1 now1 days1 week2 each1 "
      + "many1 who2 fewest1 ahead2 rests0 tips2 best1 sign1 potFor1 kindFor2 told2 uneven1 strokes0 lacks0 owes0 "
      + "odds2 seed1 feed2 wipe0 text0 hold2 as2 sheet3 write3 copy5 load1 judge1 image0 undo0 tear0 count1 status1";
  private static final String[] RULED_OUT = {
    "\\b(throw|throws|try|catch|finally|synchronized|assert|volatile|transient|native)\\b", "->", "::",
    "\\bimport\\b", "\\bpackage\\b", "\\b(protected)\\b", "\\bnew\\s+\\w+\\s*\\([^)]*\\)\\s*\\{",
    "\\b(Object|Exception|System\\.(?!arraycopy)|Thread|Random|Iterator|Map|Set|Optional|Stream)\\b",
    "\\b(toString|hashCode|getClass)\\b", "\"[^\"]*\"\\s*\\+", "\\+\\s*\"", "Exact\\b", "\\b(double|float)\\b"
  };

  public static void main(String[] args) throws ReflectiveOperationException, IOException {
    face();
    source();
    sizes();
    depthOfCalls();
    nothingIsThrown();
    noObjectIsMade();
    Dues.end();
  }

  private static void wrong(String what) {
    Dues.due(0, what, 1, 0);
  }

  private static void face() {
    TreeSet<String> want = new TreeSet<>(Arrays.asList(FACE.split(" ")));
    TreeSet<String> got = new TreeSet<>();
    for (Method m : TrustTin.class.getDeclaredMethods()) {
      if (Modifier.isPublic(m.getModifiers())) {
        got.add(m.getName() + m.getParameterCount());
        if (m.getReturnType() != int.class || Modifier.isStatic(m.getModifiers())) {
          wrong("the face of " + m);
        }
      } else if (!Modifier.isPrivate(m.getModifiers())) {
        wrong("neither public nor private: " + m);
      } else if (FACE.matches(".*\\b" + m.getName() + "[0-9].*")) {
        wrong("a private method with a public one's name: " + m);
      }
    }
    if (!got.equals(want)) {
      wrong("the face " + got);
    }
    for (Field f : TrustTin.class.getDeclaredFields()) {
      if (!Modifier.isPrivate(f.getModifiers())) {
        wrong("not private: " + f);
      }
    }
    Constructor<?>[] constructors = TrustTin.class.getDeclaredConstructors();
    if (constructors.length != 1 || constructors[0].getParameterCount() != 0
        || !Modifier.isPublic(constructors[0].getModifiers()) || !Modifier.isFinal(TrustTin.class.getModifiers())) {
      wrong("the constructor, or the class isn't final");
    }
    for (Class<?> c : TrustTin.class.getDeclaredClasses()) {
      if (!Modifier.isStatic(c.getModifiers()) || Modifier.isPublic(c.getModifiers())) {
        wrong("a class inside: " + c);
      }
      staticFields(c);
    }
    staticFields(TrustTin.class);
  }

  private static void staticFields(Class<?> c) {
    for (Field f : c.getDeclaredFields()) {
      List<Class<?>> fine = List.of(int.class, long.class, boolean.class, char.class, String.class, int[].class);
      if (Modifier.isStatic(f.getModifiers()) && !(Modifier.isFinal(f.getModifiers()) && fine.contains(f.getType()))) {
        wrong("a static field: " + f);
      }
    }
  }

  private static void source() throws IOException {
    String text = Files.readString(Path.of("src/main/java/TrustTin.java"));
    for (char c : text.toCharArray()) {
      if (c > 126) {
        wrong("a sign beyond 126 in the source");
      }
    }
    String code = text.replaceAll("(?s)/\\*.*?\\*/", " ").replaceAll("//[^\n]*", " ");
    for (String ruledOut : RULED_OUT) {
      Matcher m = Pattern.compile(ruledOut).matcher(code);
      if (m.find()) {
        wrong("ruled out: " + m.group());
      }
    }
    int begin = 0;
    String[] lines = text.split("\n");
    for (int i = 0; i < lines.length; i++) {
      if (lines[i].matches(" {2,4}\\S.*\\) \\{")) {
        begin = i;
      }
      if (lines[i].matches(" {2,4}\\}") && i - begin > 60) {
        wrong("a long method at line " + (begin + 1));
      }
    }
  }

  private static void sizes() {
    List<Class<?>> classes = new ArrayList<>(Arrays.asList(TrustTin.class.getDeclaredClasses()));
    classes.add(TrustTin.class);
    if (classes.size() > 12) {
      wrong("so many classes: " + classes.size());
    }
    for (Class<?> c : classes) {
      int fields = 0;
      for (Field f : c.getDeclaredFields()) {
        fields += Modifier.isStatic(f.getModifiers()) ? 0 : 1;
      }
      if (fields > 20) {
        wrong("so many fields of " + c + ": " + fields);
      }
      for (Method m : c.getDeclaredMethods()) {
        if (m.getParameterCount() > 7) {
          wrong("so many parameters: " + m);
        }
      }
    }
  }

  /** By their names alone, so that calls of one name count as one: never less deep than they are. */
  private static void depthOfCalls() throws IOException {
    String code = Files.readString(Path.of("src/main/java/TrustTin.java"));
    Pattern method = Pattern.compile("(?ms)^( {2,4})(?:\\w+ )*(\\w+)\\([^)]*\\) \\{\\n(.*?)^\\1\\}");
    TreeMap<String, TreeSet<String>> callsOf = new TreeMap<>();
    Matcher m = method.matcher(code);
    while (m.find()) {
      TreeSet<String> called = callsOf.computeIfAbsent(m.group(2), name -> new TreeSet<>());
      Matcher call = Pattern.compile("\\b(\\w+)\\(").matcher(m.group(3));
      while (call.find()) {
        called.add(call.group(1));
      }
    }
    for (Method call : calls()) {
      int depth = depth(callsOf, call.getName(), 0);
      if (!callsOf.containsKey(call.getName()) || depth > 8) {
        wrong("so deep are the calls of " + call.getName() + ": " + depth);
      }
    }
  }

  private static int depth(TreeMap<String, TreeSet<String>> callsOf, String name, int above) {
    int deepest = above + 1;
    // A call that comes to itself again would come here.
    for (String called : above < 20 ? callsOf.get(name) : new TreeSet<String>()) {
      if (callsOf.containsKey(called)) {
        deepest = Math.max(deepest, depth(callsOf, called, above + 1));
      }
    }
    return deepest;
  }

  private static List<Method> calls() {
    List<Method> calls = new ArrayList<>();
    for (Method m : TrustTin.class.getDeclaredMethods()) {
      if (Modifier.isPublic(m.getModifiers())) {
        calls.add(m);
      }
    }
    calls.sort((p, q) -> p.getName().compareTo(q.getName()));
    return calls;
  }

  /** All edges of an int in all places, far beyond the calls that the document promises. */
  private static void nothingIsThrown() {
    int[] wild = {Integer.MIN_VALUE, Integer.MIN_VALUE + 1, -1000001, -1, 0, 1, 2, 3, 5, 8, 9, 10, 16, 20, 32, 40, 50,
        99, 100, 120, 999, 9999, 65536, Integer.MAX_VALUE - 1, Integer.MAX_VALUE};
    List<Method> calls = calls();
    Random random = new Random(7);
    for (int object = 0; object < 6; object++) {
      TrustTin x = new TrustTin();
      for (int n = 0; n < 20000; n++) {
        Method call = calls.get(random.nextInt(calls.size()));
        Object[] args = new Object[call.getParameterCount()];
        for (int i = 0; i < args.length; i++) {
          args[i] = random.nextInt(3) == 0 ? wild[random.nextInt(wild.length)] : random.nextInt(10);
        }
        try {
          call.invoke(x, args);
        } catch (ReflectiveOperationException e) {
          wrong(call.getName() + Arrays.toString(args) + " threw " + e.getCause());
          return;
        }
      }
    }
  }

  private static int everyCall(TrustTin x, int i) {
    int sum = x.drinker(i % 7, i % 9 + 1) + x.of(0, 2) + x.change(0, 2, 300) + x.room(1, 20) + x.empty() + x.taken(3);
    sum += x.forgive(1) + x.now(4) + x.days(3) + x.week(0, 1) + x.each(0) + x.many(30) + x.who(30, 1) + x.fewest(30);
    sum += x.ahead(10, 4) + x.rests() + x.tips(50, 3) + x.best(5) + x.sign(5) + x.potFor(3) + x.kindFor(0, 5);
    sum += x.told(0, 5) + x.uneven(2) + x.strokes() + x.lacks() + x.owes() + x.odds(3, 50) + x.seed(i) + x.wipe();
    sum += x.feed('p' << 16 | 'o' << 8 | 't', 3) + x.feed('9', 1) + x.text() + x.hold(0, 0) + x.as(0, 0);
    sum += x.sheet(0, 16, 9) + x.write(0, 2, 8) + x.copy(0, 0, 0, 3, 4) + x.load(0) + x.judge(0) + x.image();
    return sum + x.undo() + x.tear() + x.count(0) + x.status(0);
  }

  private static void noObjectIsMade() {
    if (!(ManagementFactory.getThreadMXBean() instanceof com.sun.management.ThreadMXBean threads)) {
      return;
    }
    TrustTin x = new TrustTin();
    int sum = everyCall(x, 1);
    long id = Thread.currentThread().getId();
    long probe = threads.getThreadAllocatedBytes(id);
    long asking = threads.getThreadAllocatedBytes(id) - probe;
    long before = threads.getThreadAllocatedBytes(id);
    for (int i = 0; i < 100; i++) {
      sum += everyCall(x, i);
    }
    long made = threads.getThreadAllocatedBytes(id) - before - asking;
    // One object of the least size in one of the calls would be 1600 bytes.
    if (made >= 1600 || sum == 1) {
      wrong("bytes made by calls: " + made);
    }
  }
}
