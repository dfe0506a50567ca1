import java.lang.reflect.InvocationTargetException;
import java.lang.reflect.Method;
import java.util.ArrayList;
import java.util.Arrays;
import java.util.List;
import java.util.Random;
import java.util.TreeMap;
import java.util.function.ToIntFunction;
import java.util.regex.Matcher;
import java.util.regex.Pattern;

/**
 * All promises: long runs of chosen calls, each answer against that of a second, plainer writing of the
 * document, which copies its whole state for whatever goes on ahead.
 */
public final class ModelTest {
  private static final class Finding extends RuntimeException {
    private static final long serialVersionUID = 1;
    final int rank;

    Finding(int rank) {
      super(null, null, false, false);
      this.rank = rank;
    }
  }

  private static void ask(boolean holds, int rank) {
    if (!holds) {
      throw new Finding(rank);
    }
  }

  private static void inside(int v, int low, int high) {
    ask(low <= v && v <= high, 0);
  }

  /** What image() keeps. */
  private static final class All {
    List<TreeMap<String, Integer>> drinkers = new ArrayList<>();
    TreeMap<String, Integer> room = new TreeMap<>();
    List<int[]> books = new ArrayList<>();
    Integer[] spots = new Integer[10];

    All copy() {
      All all = new All();
      drinkers.forEach(d -> all.drinkers.add(new TreeMap<>(d)));
      all.room = new TreeMap<>(room);
      books.forEach(week -> all.books.add(week.clone()));
      all.spots = spots.clone();
      return all;
    }

    int get(String name) {
      return room.get(name);
    }

    void put(String name, int v) {
      room.put(name, v);
    }

    int sum(String name) {
      return drinkers.stream().mapToInt(d -> d.get(name)).sum();
    }

    int draw() {
      put("z", get("z") * 1103515245 + 12345);
      return (get("z") >>> 8) % 10;
    }

    void pay(TreeMap<String, Integer> d, int coins) {
      int paid = Math.min(coins, d.get("purse"));
      d.merge("purse", -paid, Integer::sum);
      d.merge("paid", paid, Integer::sum);
      room.merge("tin", paid, Integer::sum);
      room.merge("came", paid, Integer::sum);
      room.merge("weekCame", paid, Integer::sum);
    }

    void payFor(TreeMap<String, Integer> d, boolean isFirst) {
      int price = get("price");
      int kind = d.get("kind");
      if (kind == 1 || kind == 6) {
        d.merge("debt", kind == 1 ? price : price / 2, Integer::sum);
      } else if (kind == 3) {
        pay(d, get("sign") == 2 && isFirst ? price : 0);
      } else if (kind == 2 || kind == 4 && get("last") >= 50) {
        boolean forgets = draw() < 4 - 2 * get("sign");
        pay(d, forgets ? 0 : price);
      } else if (kind != 4) {
        pay(d, kind == 5 ? 2 * price : price);
      }
    }

    void drink(TreeMap<String, Integer> d) {
      boolean isFirst = true;
      for (int cups = d.get("cups"); cups > 0; cups--) {
        if (get("left") == 0) {
          if (d.get("kind") != 6 && draw() >= 3) {
            room.merge("missed", 1, Integer::sum);
            break;
          }
          put("left", get("pot"));
        }
        room.merge("left", -1, Integer::sum);
        room.merge("allDrunk", 1, Integer::sum);
        d.merge("drunk", 1, Integer::sum);
        payFor(d, isFirst);
        isFirst = false;
      }
    }

    void friday() {
      for (TreeMap<String, Integer> d : drinkers) {
        if (List.of(1, 6).contains(d.get("kind"))) {
          int before = d.get("purse");
          pay(d, d.get("debt"));
          d.merge("debt", d.get("purse") - before, Integer::sum);
        }
      }
      int cups = sum("drunk");
      int came = get("weekCame");
      books.add(new int[] {cups, came});
      int ought = cups * get("price");
      put("last", ought == 0 ? 100 : Math.min(999, came * 100 / ought));
      beginWeek();
    }

    void beginWeek() {
      put("weekCame", 0);
      for (TreeMap<String, Integer> d : drinkers) {
        d.put("drunk", 0);
        d.put("paid", 0);
      }
    }

    /** What came. */
    int go(int n) {
      put("came", 0);
      put("allDrunk", 0);
      for (int i = 0; i < n; i++) {
        for (TreeMap<String, Integer> d : drinkers) {
          if (d.get("limit") >= get("price")) {
            drink(d);
          }
        }
        put("left", get("pot"));
        if (get("day") % 5 == 4) {
          friday();
        }
        put("day", get("day") + 1);
      }
      return get("came");
    }
  }

  /** The document's face; what a finding's exception leaves is told as a number by call(). */
  public static final class Model {
    private static final String[] OWN = {"kind", "cups", "purse", "limit", "debt", "drunk", "paid"};
    private static final int[] LEAST = {0, 1, 0, 0};
    private static final int[] MOST = {6, 9, 9999, 99};
    private static final String[] KINDS = {"each", "later", "forgets", "never", "if", "twice", "maker"};
    private static final String[] ABOVE = {"0", "01", "02", "03", "024", "05", "016"};

    private All a = new All();
    private All image = null;
    private final StringBuilder tape = new StringBuilder();
    private final int[][] sheets = new int[4][];
    private final int[] bits = new int[4];
    private final int[] told = new int[7];

    Model() {
      String[] names = {"price", "pot", "left", "tin", "sign", "last", "day", "missed", "z", "weekCame"};
      int[] first = {5, 12, 12, 0, 0, 100, 0, 0, 1, 0};
      for (int i = 0; i < names.length; i++) {
        a.put(names[i], first[i]);
      }
    }

    private void aDrinker(int d) {
      inside(d, 0, a.drinkers.size() - 1);
    }

    private void daysLeft(int n) {
      ask(a.get("day") + n <= 9999, 4);
    }

    private static int add(All all, int kind, int cups) {
      TreeMap<String, Integer> d = new TreeMap<>();
      int[] first = {kind, cups, 200, 20, 0, 0, 0};
      for (int i = 0; i < 7; i++) {
        d.put(OWN[i], first[i]);
      }
      all.drinkers.add(d);
      return all.drinkers.size() - 1;
    }

    public int drinker(int kind, int cups) {
      inside(kind, 0, 6);
      inside(cups, 1, 9);
      ask(a.drinkers.size() < 10, 1);
      return add(a, kind, cups);
    }

    public int of(int drinker, int what) {
      aDrinker(drinker);
      inside(what, 0, 6);
      return a.drinkers.get(drinker).get(OWN[what]);
    }

    public int change(int drinker, int what, int v) {
      aDrinker(drinker);
      inside(what, 0, 3);
      inside(v, LEAST[what], MOST[what]);
      return a.drinkers.get(drinker).put(OWN[what], v);
    }

    public int room(int what, int v) {
      inside(what, 0, 2);
      inside(v, what == 1 ? 1 : 0, what == 2 ? 2 : 99);
      if (what == 1) {
        a.put("left", v);
      }
      return a.room.put(List.of("price", "pot", "sign").get(what), v);
    }

    public int empty() {
      return a.room.put("tin", 0);
    }

    public int taken(int v) {
      inside(v, 1, 999);
      int before = a.get("tin");
      a.put("tin", Math.max(0, before - v));
      return before - a.get("tin");
    }

    public int forgive(int drinker) {
      aDrinker(drinker);
      return a.drinkers.get(drinker).put("debt", 0);
    }

    public int now(int what) {
      inside(what, 0, 9);
      if (what == 4) {
        return a.get("price") * a.sum("drunk");
      }
      String name = "day tin left last - missed debt purse drunk paid".split(" ")[what];
      return what < 6 ? a.get(name) : a.sum(name);
    }

    public int days(int n) {
      inside(n, 1, 50);
      daysLeft(n);
      int came = a.go(n);
      while (a.books.size() > 20) {
        a.books.remove(0);
      }
      return came;
    }

    public int week(int i, int what) {
      ask(i >= 0, 0);
      inside(what, 0, 1);
      ask(i < a.books.size(), 3);
      return a.books.get(a.books.size() - 1 - i)[what];
    }

    public int each(int part) {
      inside(part, 0, 1);
      int below = a.books.stream().mapToInt(week -> week[0]).sum();
      int above = a.books.stream().mapToInt(week -> week[1]).sum();
      ask(below > 0, 3);
      int d = below;
      while (above % d != 0 || below % d != 0) {
        d--;
      }
      return (part == 0 ? above : below) / d;
    }

    private List<Integer> sets(int sum) {
      inside(sum, 0, 9999);
      List<Integer> sets = new ArrayList<>();
      for (int set = 1; set < 1 << a.drinkers.size(); set++) {
        int cups = 0;
        for (int d = 0; d < a.drinkers.size(); d++) {
          cups += (set & 1 << d) != 0 ? a.drinkers.get(d).get("drunk") : 0;
        }
        if (cups * a.get("price") == sum) {
          sets.add(set);
        }
      }
      return sets;
    }

    public int many(int sum) {
      return sets(sum).size();
    }

    public int who(int sum, int what) {
      inside(what, 0, 1);
      List<Integer> sets = sets(sum);
      ask(!sets.isEmpty(), 3);
      return sets.stream().reduce((p, q) -> what == 0 ? p & q : p | q).get();
    }

    public int fewest(int sum) {
      List<Integer> sets = sets(sum);
      ask(!sets.isEmpty(), 3);
      return sets.stream().min((p, q) -> Integer.bitCount(p) != Integer.bitCount(q)
          ? Integer.bitCount(p) - Integer.bitCount(q) : p - q).get();
    }

    public int ahead(int n, int what) {
      inside(n, 0, 100);
      inside(what, 0, 5);
      daysLeft(n);
      All b = a.copy();
      int came = b.go(n);
      int missed = b.get("missed") - a.get("missed");
      return new int[] {b.get("tin"), b.get("allDrunk"), b.sum("debt"), missed, came, b.get("last")}[what];
    }

    private int lastBehind(int last, int weeks) {
      All b = a.copy();
      b.beginWeek();
      b.put("day", 5);
      b.put("last", last);
      b.go(5 * weeks);
      return b.get("last");
    }

    public int rests() {
      ask(a.get("day") <= 9990, 4);
      int set = 0;
      for (int last = 0; last <= 100; last += 10) {
        set += lastBehind(last, 1) == last ? 1 << last / 10 : 0;
      }
      return set;
    }

    public int tips(int last, int n) {
      inside(last, 0, 999);
      inside(n, 1, 10);
      ask(a.get("day") <= 9940, 4);
      return lastBehind(last, n);
    }

    private int bestOf(int low, int high, ToIntFunction<Integer> worth) {
      int best = low;
      for (int v = low + 1; v <= high; v++) {
        best = worth.applyAsInt(v) > worth.applyAsInt(best) ? v : best;
      }
      return best;
    }

    private int cameWith(String name, int v, int n) {
      All b = a.copy();
      b.put(name, v);
      return b.go(n);
    }

    public int best(int n) {
      inside(n, 1, 20);
      daysLeft(n);
      int[] came = new int[100];
      Arrays.setAll(came, price -> cameWith("price", price, n));
      return bestOf(0, 99, price -> came[price]);
    }

    public int sign(int n) {
      inside(n, 1, 50);
      daysLeft(n);
      return bestOf(0, 2, sign -> cameWith("sign", sign, n));
    }

    public int potFor(int n) {
      inside(n, 1, 20);
      daysLeft(n);
      for (int pot = 1; pot < 100; pot++) {
        All b = a.copy();
        b.put("pot", pot);
        b.put("left", pot);
        b.put("missed", 0);
        b.go(n);
        if (b.get("missed") == 0) {
          return pot;
        }
      }
      throw new Finding(3);
    }

    public int kindFor(int drinker, int n) {
      aDrinker(drinker);
      inside(n, 1, 50);
      daysLeft(n);
      return bestOf(0, 6, kind -> {
        All b = a.copy();
        TreeMap<String, Integer> d = b.drinkers.get(drinker);
        d.put("kind", kind);
        b.go(n);
        return d.get("purse") - d.get("debt");
      });
    }

    public int told(int drinker, int n) {
      aDrinker(drinker);
      inside(n, 1, 50);
      daysLeft(n);
      All b = a.copy();
      b.drinkers.get(drinker).put("kind", 0);
      return b.go(n) - a.copy().go(n);
    }

    public int uneven(int way) {
      inside(way, 0, 2);
      List<TreeMap<String, Integer>> who = new ArrayList<>(a.drinkers);
      who.removeIf(d -> d.get("drunk") == 0);
      ask(!who.isEmpty(), 3);
      int levy = now(4) / who.size();
      int[] each = who.stream().mapToInt(d -> way == 1 ? 100 * a.get("price")
          : 100 * (way == 0 ? d.get("paid") : levy) / d.get("drunk")).sorted().toArray();
      return each[each.length - 1] - each[0];
    }

    public int strokes() {
      int strokes = 0;
      for (TreeMap<String, Integer> d : a.drinkers) {
        for (int cup = 0; cup < d.get("drunk"); cup++) {
          int rest = a.draw();
          strokes += rest == 0 ? 0 : rest == 1 ? 2 : 1;
        }
      }
      return strokes;
    }

    public int lacks() {
      return now(4) - (now(9) + now(6));
    }

    public int owes() {
      ask(!a.drinkers.isEmpty(), 3);
      return bestOf(0, a.drinkers.size() - 1, d -> a.get("price") * of(d, 5) - of(d, 6));
    }

    public int odds(int n, int v) {
      inside(n, 1, 20);
      inside(v, 0, 9999);
      daysLeft(5);
      int often = 0;
      for (int i = 0; i < n; i++) {
        All b = a.copy();
        often += b.go(5) >= v ? 1 : 0;
        a.put("z", b.get("z"));
      }
      return often;
    }

    public int seed(int v) {
      return a.room.put("z", v);
    }

    public int feed(int bytes, int n) {
      inside(n, 1, 4);
      ask(tape.length() + n <= 120, 1);
      for (int shift = 8 * n - 8; shift >= 0; shift -= 8) {
        tape.append((char) (bytes >> shift & 0xff));
      }
      return tape.length();
    }

    public int wipe() {
      int before = tape.length();
      tape.setLength(0);
      return before;
    }

    private String[] tokens = {};
    private int[] places = {};
    private int next = 0;

    private boolean isNumber(int low, int high) {
      String t = tokens[next];
      boolean fits = t.matches("0*[0-9]{1,4}") && Integer.parseInt(t) >= low && Integer.parseInt(t) <= high;
      next += fits ? 1 : 0;
      return fits;
    }

    private boolean isWord(String word) {
      boolean fits = tokens[next].equals(word);
      next += fits ? 1 : 0;
      return fits;
    }

    private int value() {
      return Integer.parseInt(tokens[next - 1]);
    }

    private boolean isItem(All b) {
      int kind = Arrays.asList(KINDS).indexOf(tokens[next]);
      if (kind >= 0) {
        if (b.drinkers.size() == 10) {
          return false;
        }
        next++;
        if (!isNumber(1, 9)) {
          return false;
        }
        TreeMap<String, Integer> d = b.drinkers.get(add(b, kind, value()));
        for (int what = 2; what < 4; what++) {
          if (isWord(OWN[what])) {
            if (!isNumber(0, MOST[what])) {
              return false;
            }
            d.put(OWN[what], value());
          }
        }
        return true;
      }
      boolean isPot = tokens[next].equals("pot");
      if (isPot || tokens[next].equals("price")) {
        String name = tokens[next++];
        if (!isNumber(isPot ? 1 : 0, 99)) {
          return false;
        }
        b.put(name, value());
        b.put(isPot ? "left" : "price", value());
        return true;
      }
      if (isWord("sign")) {
        int sign = List.of("none", "flowers", "eyes").indexOf(tokens[next]);
        b.put("sign", sign);
        next += sign >= 0 ? 1 : 0;
        return sign >= 0;
      }
      return false;
    }

    public int text() {
      String bytes = tape.toString();
      tape.setLength(0);
      List<String> found = new ArrayList<>();
      List<Integer> at = new ArrayList<>();
      Matcher m = Pattern.compile(" *([a-z]+|[0-9]+|[^ ])", Pattern.DOTALL).matcher(bytes);
      while (m.find()) {
        found.add(m.group(1));
        at.add(m.start(1));
      }
      found.add("");
      at.add(bytes.length());
      tokens = found.toArray(new String[0]);
      places = at.stream().mapToInt(i -> i).toArray();
      next = 0;
      All b = a.copy();
      int items = 0;
      while (isItem(b)) {
        items++;
        if (tokens[next].isEmpty()) {
          a = b;
          return items;
        }
        if (!isWord(";")) {
          break;
        }
      }
      return -1 - places[next];
    }

    public int hold(int spot, int drinker) {
      inside(spot, 0, 9);
      inside(drinker, -1, a.drinkers.size() - 1);
      a.spots[spot] = drinker < 0 ? null : drinker;
      return 1;
    }

    public int as(int spot, int kind) {
      inside(spot, 0, 9);
      inside(kind, 0, 6);
      ask(a.spots[spot] != null, 5);
      ask(ABOVE[of(a.spots[spot], 0)].indexOf('0' + kind) >= 0, 2);
      return a.spots[spot];
    }

    public int sheet(int s, int ofBits, int n) {
      inside(s, 0, 3);
      ask(List.of(0, 8, 16, 32).contains(ofBits), 0);
      ask(n >= 0, 6);
      ask(n <= 40, 0);
      bits[s] = ofBits;
      sheets[s] = ofBits == 0 ? null : new int[n];
      return ofBits == 0 ? 0 : n;
    }

    private int[] row(int s) {
      inside(s, 0, 3);
      ask(sheets[s] != null, 5);
      return sheets[s];
    }

    public int write(int s, int i, int v) {
      int[] row = row(s);
      inside(i, 0, row.length - 1);
      row[i] = bits[s] == 8 ? (byte) v : bits[s] == 16 ? (short) v : v;
      return 1;
    }

    public int copy(int s, int from, int t, int to, int n) {
      inside(s, 0, 3);
      inside(t, 0, 3);
      int[] source = row(s).clone();
      int[] target = row(t);
      ask(bits[s] == bits[t], 2);
      ask(from >= 0 && to >= 0 && n >= 0, 0);
      ask((long) from + n <= source.length && (long) to + n <= target.length, 0);
      for (int i = 0; i < n; i++) {
        target[to + i] = source[from + i];
      }
      return n;
    }

    public int load(int s) {
      int[] row = row(s);
      int came = 0;
      for (int v : row) {
        if (v < 0 || v > 9999 || came == a.drinkers.size()) {
          break;
        }
        a.drinkers.get(came++).put("purse", v);
      }
      return came;
    }

    public int judge(int s) {
      int[] row = row(s);
      daysLeft(row.length);
      for (int i = 0; i < row.length; i++) {
        if (a.copy().go(i + 1) - a.copy().go(i) != row[i]) {
          return 1 + i;
        }
      }
      return 0;
    }

    public int image() {
      image = a.copy();
      return 1;
    }

    public int undo() {
      ask(image != null, 3);
      a = image.copy();
      return a.get("day");
    }

    public int tear() {
      int before = image == null ? 0 : 1;
      image = null;
      return before;
    }

    public int count(int what) {
      inside(what, 0, 7);
      int held = (int) Arrays.stream(a.spots).filter(d -> d != null).count();
      return new int[] {a.drinkers.size(), a.books.size(), a.get("price"), a.get("pot"), a.get("sign"),
          tape.length(), a.get("z"), held}[what];
    }

    public int status(int which) {
      inside(which, -1, 6);
      return which >= 0 ? told[which] : Arrays.stream(told).sum();
    }

    int call(Method method, Object[] args) throws ReflectiveOperationException {
      try {
        return (Integer) method.invoke(this, args);
      } catch (InvocationTargetException e) {
        if (e.getCause() instanceof Finding f) {
          told[f.rank]++;
          return -1000001 - f.rank;
        }
        throw e;
      }
    }
  }

  // Each call's name, how often it is chosen, and the least and most of each argument that is chosen.
  private static final String[] CALLS = {
    "drinker 6 0 6 1 9", "of 8 0 9 0 6", "change0 2 0 9 0 0 0 6", "change1 2 0 9 1 1 1 9",
    "change2 4 0 9 2 2 0 400", "change2 1 0 9 2 2 0 9999", "change3 2 0 9 3 3 0 99", "room0 3 0 0 0 25",
    "room0 1 0 0 0 99", "room1 4 1 1 1 20", "room1 1 1 1 1 99", "room2 4 2 2 0 2", "empty 1", "taken 2 1 999",
    "forgive 2 0 9", "now 10 0 9", "days 16 1 6", "days 1 1 50", "week 4 0 5 0 1", "week 1 0 25 0 1",
    "each 3 0 1", "many 3 0 200", "who 4 0 200 0 1", "fewest 3 0 200", "ahead 5 0 12 0 5", "ahead 1 0 100 0 5",
    "rests 3", "tips 4 0 130 1 10", "tips 1 0 999 1 10", "best 1 1 20", "sign 2 1 50", "potFor 1 1 20",
    "kindFor 2 0 9 1 50", "told 2 0 9 1 50", "uneven 5 0 2", "strokes 3", "lacks 3", "owes 3",
    "odds 2 1 20 0 300", "seed 2 -9 99", "feed 1 97 122 1 4", "wipe 1", "text 1", "hold 4 0 9 -1 9",
    "as 5 0 9 0 6", "sheet 3 0 3 16 16 0 40", "sheet 1 0 3 8 8 0 40", "sheet 1 0 3 32 32 0 40",
    "sheet 1 0 3 0 0 0 40", "write 8 0 3 0 12 -30 300", "write 2 0 3 0 39 -99999 99999",
    "copy 4 0 3 0 9 0 3 0 9 0 12", "load 2 0 3", "judge 2 0 3", "image 1", "undo 1", "tear 1", "count 6 0 7",
    "status 4 -1 6"
  };
  private static final int[] WILD = {-2, -1, 0, 7, 10, 20, 41, 51, 101, 9999, 10000, Integer.MAX_VALUE,
      Integer.MIN_VALUE};
  private static final String[] PIECES = {"each ", "later ", "forgets ", "never ", "if ", "twice ", "maker ",
      "purse ", "limit ", "price ", "pot ", "sign ", "none", "flowers", "eyes", ";", "; ", "3", "7 ", "0", "99",
      "100 ", "9999", "10000", " ", "Q", "\u00e9", "pots "};

  private final Random random;
  private final TrustTin tin = new TrustTin();
  private final Model model = new Model();
  private final List<String> latest = new ArrayList<>();
  private final TreeMap<String, Integer> seen;
  private int made = 0;

  private ModelTest(long seed, TreeMap<String, Integer> seen) {
    random = new Random(seed);
    this.seen = seen;
  }

  private boolean agree(String name, int... args) throws ReflectiveOperationException {
    made++;
    Class<?>[] types = new Class<?>[args.length];
    Arrays.fill(types, int.class);
    Object[] boxed = Arrays.stream(args).boxed().toArray();
    int got = (Integer) TrustTin.class.getMethod(name, types).invoke(tin, boxed);
    int want = model.call(Model.class.getMethod(name, types), boxed);
    String call = name + Arrays.toString(args);
    latest.add(call + " " + got);
    seen.merge(name + (want <= -1000001 && want >= -1000007 ? " " + want : ""), 1, Integer::sum);
    if (got != want) {
      System.out.println(call + " answered " + got + ", due is " + want + "; ahead of it:");
      latest.subList(Math.max(0, latest.size() - 60), latest.size()).forEach(c -> System.out.println("  " + c));
    }
    return got == want;
  }

  private int between(int low, int high) {
    return low + random.nextInt(high - low + 1);
  }

  private boolean chosenCall(String[] lines) throws ReflectiveOperationException {
    String[] parts = lines[random.nextInt(lines.length)].split(" ");
    int[] args = new int[parts.length / 2 - 1];
    for (int i = 0; i < args.length; i++) {
      args[i] = between(Integer.parseInt(parts[2 + 2 * i]), Integer.parseInt(parts[3 + 2 * i]));
      if (random.nextInt(25) == 0) {
        args[i] = WILD[random.nextInt(WILD.length)];
      }
    }
    if (isSumAsked(parts[0]) && random.nextInt(4) > 0) {
      args[0] = model.count(2) * between(0, 25);
    }
    return agree(parts[0].replaceAll("[0-9]", ""), args);
  }

  private static boolean isSumAsked(String name) {
    return List.of("many", "who", "fewest").contains(name);
  }

  private String item() {
    switch (random.nextInt(8)) {
      case 0:
        return "price " + between(0, 30);
      case 1:
        return "pot" + between(1, 30);
      case 2:
        return "sign " + PIECES[between(12, 14)];
      default:
        String drinker = PIECES[random.nextInt(7)] + between(1, 9);
        drinker += random.nextInt(3) == 0 ? " purse " + between(0, 500) : "";
        return drinker + (random.nextInt(3) == 0 ? "limit" + between(0, 99) : "");
    }
  }

  private boolean chosenText() throws ReflectiveOperationException {
    StringBuilder text = new StringBuilder(item());
    for (int more = random.nextInt(5); more > 0; more--) {
      text.append(random.nextInt(2) == 0 ? ";" : " ; ").append(item());
    }
    for (int more = Math.max(0, random.nextInt(6) - 2); more > 0; more--) {
      text.insert(random.nextInt(text.length() + 1), PIECES[random.nextInt(PIECES.length)]);
    }
    boolean all = agree("wipe");
    for (int i = 0; i < text.length() && all; i += 4) {
      int bytes = 0;
      int n = Math.min(4, text.length() - i);
      for (int k = 0; k < n; k++) {
        bytes = bytes << 8 | text.charAt(i + k);
      }
      all = agree("feed", bytes, n);
    }
    return all && agree("text");
  }

  private boolean run(String[] lines, boolean isLate) throws ReflectiveOperationException {
    boolean all = true;
    int days = isLate ? between(9900, 9999) : 0;
    for (; days > 0 && all; days -= 50) {
      all = agree("days", Math.min(days, 50));
    }
    for (int more = random.nextInt(8); more > 0 && all; more--) {
      all = agree("drinker", between(0, 6), between(1, 5)) && agree("hold", between(0, 9), 0);
    }
    while (made < 460 && all) {
      all = random.nextInt(60) == 0 ? chosenText() : chosenCall(lines);
    }
    for (int what = 0; what < 10 && all; what++) {
      all = agree("now", what) && agree("count", Math.min(what, 7)) && agree("status", Math.min(what, 7) - 1);
    }
    return all;
  }

  private static String[] asOftenAsTold() {
    List<String> lines = new ArrayList<>();
    for (String line : CALLS) {
      for (int n = Integer.parseInt(line.split(" ")[1]); n > 0; n--) {
        lines.add(line);
      }
    }
    return lines.toArray(new String[0]);
  }

  public static void main(String[] args) throws ReflectiveOperationException {
    int runs = args.length > 0 ? Integer.parseInt(args[0]) : 200;
    String[] lines = asOftenAsTold();
    TreeMap<String, Integer> seen = new TreeMap<>();
    int wrong = 0;
    for (int seed = 1; seed <= runs && wrong < 3; seed++) {
      wrong += new ModelTest(seed, seen).run(lines, seed % 5 == 0) ? 0 : 1;
    }
    if (args.length > 1) {
      seen.forEach((call, often) -> System.out.println(call + ": " + often));
    }
    System.out.println(wrong == 0 ? "all answers are as due" : wrong + " runs are not as due");
    if (wrong != 0) {
      System.exit(1);
    }
  }
}
