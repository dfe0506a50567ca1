import java.lang.reflect.Method;
import java.util.ArrayList;
import java.util.Arrays;
import java.util.List;

/**
 * What changes nothing: a twin that was not asked tells the same. These are the findings of all calls, each
 * at the edges of what the document allows, in the order in which they are asked, counted once by status();
 * and the calls that only ask.
 */
public final class UnchangedTest {
  private static final List<String> FINDINGS =
      List.of("BEYOND", "FULL", "KIND", "NONE", "STATE", "MISSING", "SIZE");

  // A row: the promise, the finding, the call; min and max are an int's least and most.
  private static final String[] OF_A_NEW_ONE = {
    "3 BEYOND of 0 0", "4 BEYOND change 0 0 0", "8 BEYOND forgive 0", "11 NONE week 0 0", "11 NONE week 0 1",
    "11 BEYOND week 0 2", "11 BEYOND week -1 0", "12 NONE each 0", "12 NONE each 1", "12 BEYOND each 2",
    "14 NONE who 0 0", "14 NONE who 0 1", "14 BEYOND who 0 2", "14 BEYOND who -1 0", "15 NONE fewest 0",
    "15 BEYOND fewest -1", "22 BEYOND kindFor 0 1", "23 BEYOND told 0 1", "24 NONE uneven 0", "24 NONE uneven 1",
    "24 NONE uneven 2", "24 BEYOND uneven 3", "24 BEYOND uneven -1", "27 NONE owes", "33 BEYOND hold 0 0",
    "34 MISSING as 0 0", "34 MISSING as 9 6", "34 BEYOND as 10 0", "34 BEYOND as 0 7", "36 MISSING write 0 0 0",
    "36 MISSING write 3 -1 0", "36 BEYOND write 4 0 0", "37 MISSING copy 0 0 1 0 0", "37 BEYOND copy 0 0 4 0 0",
    "37 BEYOND copy 4 0 0 0 0", "38 MISSING load 0", "38 BEYOND load 4", "39 MISSING judge 3", "39 BEYOND judge -1",
    "41 NONE undo"
  };
  private static final String[] OF_A_USED_ONE = {
    "2 BEYOND drinker -1 1", "2 BEYOND drinker 7 1", "2 BEYOND drinker 0 0", "2 BEYOND drinker 0 10",
    "2 BEYOND drinker min 1", "2 BEYOND drinker max 1", "2 BEYOND drinker 0 min", "2 BEYOND drinker 0 max",
    "3 BEYOND of -1 0", "3 BEYOND of 7 0", "3 BEYOND of 0 -1", "3 BEYOND of 0 7", "3 BEYOND of min 0",
    "3 BEYOND of max 0", "3 BEYOND of 0 min", "3 BEYOND of 0 max",
    "4 BEYOND change -1 0 0", "4 BEYOND change 7 0 0", "4 BEYOND change 0 -1 0", "4 BEYOND change 0 4 1",
    "4 BEYOND change 0 5 1", "4 BEYOND change 0 6 1", "4 BEYOND change 0 0 -1", "4 BEYOND change 0 0 7",
    "4 BEYOND change 0 1 0", "4 BEYOND change 0 1 10", "4 BEYOND change 0 2 -1", "4 BEYOND change 0 2 10000",
    "4 BEYOND change 0 3 -1", "4 BEYOND change 0 3 100", "4 BEYOND change max 0 0", "4 BEYOND change min 0 0",
    "4 BEYOND change 0 min 1", "4 BEYOND change 0 max 1", "4 BEYOND change 0 2 min", "4 BEYOND change 0 2 max",
    "5 BEYOND room -1 1", "5 BEYOND room 3 1", "5 BEYOND room 0 -1", "5 BEYOND room 0 100", "5 BEYOND room 1 0",
    "5 BEYOND room 1 100", "5 BEYOND room 2 -1", "5 BEYOND room 2 3", "5 BEYOND room min 1", "5 BEYOND room max 1",
    "5 BEYOND room 0 min", "5 BEYOND room 0 max", "5 BEYOND room 1 -1", "5 BEYOND room 1 min", "5 BEYOND room 1 max",
    "7 BEYOND taken 0", "7 BEYOND taken -1", "7 BEYOND taken 1000", "7 BEYOND taken min", "7 BEYOND taken max",
    "8 BEYOND forgive -1", "8 BEYOND forgive 7", "8 BEYOND forgive min", "8 BEYOND forgive max",
    "9 BEYOND now -1", "9 BEYOND now 10", "9 BEYOND now min", "9 BEYOND now max",
    "10 BEYOND days 0", "10 BEYOND days -1", "10 BEYOND days 51", "10 BEYOND days min", "10 BEYOND days max",
    "11 BEYOND week -1 0", "11 BEYOND week min 0", "11 BEYOND week 0 -1", "11 BEYOND week 0 2",
    "11 BEYOND week 0 min", "11 BEYOND week 0 max", "11 NONE week 1 0", "11 NONE week 1 1", "11 NONE week 20 0",
    "11 BEYOND week 1 2", "12 BEYOND each -1", "12 BEYOND each 2", "12 BEYOND each min", "12 BEYOND each max",
    "13 BEYOND many -1", "13 BEYOND many 10000", "13 BEYOND many min", "13 BEYOND many max",
    "14 BEYOND who -1 0", "14 BEYOND who 10000 0", "14 BEYOND who 7 -1", "14 BEYOND who 7 2",
    "14 BEYOND who min 0", "14 BEYOND who max 1", "14 BEYOND who 7 min", "14 BEYOND who 7 max",
    "14 NONE who 1 0", "14 NONE who 9999 1", "14 BEYOND who 1 2", "15 BEYOND fewest -1", "15 BEYOND fewest 10000",
    "15 BEYOND fewest min", "15 BEYOND fewest max", "15 NONE fewest 1", "15 NONE fewest 9999",
    "16 BEYOND ahead -1 0", "16 BEYOND ahead 101 0", "16 BEYOND ahead 1 -1", "16 BEYOND ahead 1 6",
    "16 BEYOND ahead min 0", "16 BEYOND ahead max 0", "16 BEYOND ahead 1 min", "16 BEYOND ahead 1 max",
    "18 BEYOND tips -1 1", "18 BEYOND tips 1000 1", "18 BEYOND tips 0 0", "18 BEYOND tips 0 11",
    "18 BEYOND tips min 1", "18 BEYOND tips max 1", "18 BEYOND tips 0 min", "18 BEYOND tips 0 max",
    "19 BEYOND best 0", "19 BEYOND best 21", "19 BEYOND best min", "19 BEYOND best max",
    "20 BEYOND sign 0", "20 BEYOND sign 51", "20 BEYOND sign min", "20 BEYOND sign max",
    "21 BEYOND potFor 0", "21 BEYOND potFor 21", "21 BEYOND potFor min", "21 BEYOND potFor max",
    "22 BEYOND kindFor -1 1", "22 BEYOND kindFor 7 1", "22 BEYOND kindFor 0 0", "22 BEYOND kindFor 0 51",
    "22 BEYOND kindFor min 1", "22 BEYOND kindFor max 1", "22 BEYOND kindFor 0 min", "22 BEYOND kindFor 0 max",
    "23 BEYOND told -1 1", "23 BEYOND told 7 1", "23 BEYOND told 0 0", "23 BEYOND told 0 51",
    "23 BEYOND told min 1", "23 BEYOND told max 1", "23 BEYOND told 0 min", "23 BEYOND told 0 max",
    "24 BEYOND uneven -1", "24 BEYOND uneven 3", "24 BEYOND uneven min", "24 BEYOND uneven max",
    "28 BEYOND odds 0 0", "28 BEYOND odds 21 0", "28 BEYOND odds 1 -1", "28 BEYOND odds 1 10000",
    "28 BEYOND odds min 0", "28 BEYOND odds max 0", "28 BEYOND odds 1 min", "28 BEYOND odds 1 max",
    "30 BEYOND feed 65 0", "30 BEYOND feed 65 5", "30 BEYOND feed 65 -1", "30 BEYOND feed 65 min",
    "30 BEYOND feed 65 max", "33 BEYOND hold -1 0", "33 BEYOND hold 10 0", "33 BEYOND hold 10 -1",
    "33 BEYOND hold 0 -2", "33 BEYOND hold 0 7", "33 BEYOND hold min 0", "33 BEYOND hold max 0",
    "33 BEYOND hold 0 min", "33 BEYOND hold 0 max", "34 BEYOND as -1 0", "34 BEYOND as 10 0", "34 BEYOND as 1 -1",
    "34 BEYOND as 1 7", "34 BEYOND as min 0", "34 BEYOND as max 0", "34 BEYOND as 1 min", "34 BEYOND as 1 max",
    "34 MISSING as 0 0", "34 BEYOND as 0 7", "34 KIND as 1 6", "34 KIND as 1 2", "34 KIND as 3 1",
    "35 BEYOND sheet -1 8 1", "35 BEYOND sheet 4 8 1", "35 BEYOND sheet 0 1 1", "35 BEYOND sheet 0 7 1",
    "35 BEYOND sheet 0 9 1", "35 BEYOND sheet 0 15 1", "35 BEYOND sheet 0 17 1", "35 BEYOND sheet 0 24 1",
    "35 BEYOND sheet 0 31 1", "35 BEYOND sheet 0 33 1", "35 BEYOND sheet 0 64 1", "35 BEYOND sheet 0 -8 1",
    "35 BEYOND sheet min 8 1", "35 BEYOND sheet max 8 1", "35 BEYOND sheet 0 min 1", "35 BEYOND sheet 0 max 1",
    "35 BEYOND sheet 4 8 -1", "35 BEYOND sheet 0 24 -1", "35 SIZE sheet 0 8 -1", "35 SIZE sheet 0 0 -1",
    "35 SIZE sheet 0 0 min", "35 SIZE sheet 0 32 min", "35 BEYOND sheet 0 8 41", "35 BEYOND sheet 0 16 41",
    "35 BEYOND sheet 0 32 41", "35 BEYOND sheet 0 0 41", "35 BEYOND sheet 0 0 max", "35 BEYOND sheet 0 8 max",
    "36 BEYOND write -1 0 5", "36 BEYOND write 4 0 5", "36 BEYOND write min 0 5", "36 BEYOND write max 0 5",
    "36 MISSING write 2 0 5", "36 MISSING write 2 40 5", "36 MISSING write 2 -1 5", "36 BEYOND write 0 -1 5",
    "36 BEYOND write 0 3 5", "36 BEYOND write 0 39 5", "36 BEYOND write 3 40 5", "36 BEYOND write 0 min 5",
    "36 BEYOND write 0 max 5", "37 BEYOND copy -1 0 0 0 1", "37 BEYOND copy 4 0 0 0 1", "37 BEYOND copy 0 0 -1 0 1",
    "37 BEYOND copy 0 0 4 0 1", "37 BEYOND copy 2 0 4 0 1", "37 BEYOND copy min 0 0 0 1", "37 BEYOND copy max 0 0 0 1",
    "37 BEYOND copy 0 0 min 0 1", "37 BEYOND copy 0 0 max 0 1", "37 MISSING copy 0 0 2 0 1",
    "37 MISSING copy 2 0 0 0 1", "37 MISSING copy 2 0 2 0 -1", "37 KIND copy 0 0 1 0 1", "37 KIND copy 1 0 3 0 1",
    "37 KIND copy 0 0 3 0 0", "37 KIND copy 0 -1 1 -1 -1", "37 BEYOND copy 0 -1 0 0 1", "37 BEYOND copy 0 1 0 -1 1",
    "37 BEYOND copy 0 1 0 0 -1", "37 BEYOND copy 0 0 0 1 3", "37 BEYOND copy 0 1 0 0 3", "37 BEYOND copy 0 0 0 0 4",
    "37 BEYOND copy 0 4 0 0 0", "37 BEYOND copy 0 0 0 4 0", "37 BEYOND copy 0 3 0 0 1", "37 BEYOND copy 0 0 0 3 1",
    "37 BEYOND copy 0 min 0 0 1", "37 BEYOND copy 0 max 0 0 1", "37 BEYOND copy 0 0 0 min 1",
    "37 BEYOND copy 0 0 0 max 1", "37 BEYOND copy 0 0 0 1 min", "37 BEYOND copy 0 1 0 0 max",
    "37 BEYOND copy 0 max 0 max max", "37 BEYOND copy 3 1 3 0 40", "37 BEYOND copy 3 0 3 1 40",
    "38 BEYOND load -1", "38 BEYOND load 4", "38 BEYOND load min", "38 BEYOND load max", "38 MISSING load 2",
    "39 BEYOND judge -1", "39 BEYOND judge 4", "39 BEYOND judge min", "39 BEYOND judge max", "39 MISSING judge 2",
    "43 BEYOND count -1", "43 BEYOND count 8", "43 BEYOND count min", "43 BEYOND count max",
    "44 BEYOND status -2", "44 BEYOND status 7", "44 BEYOND status min", "44 BEYOND status max"
  };
  private static final String[] OF_A_FULL_ONE = {
    "2 FULL drinker 0 1", "2 FULL drinker 6 9", "2 BEYOND drinker 7 1", "2 BEYOND drinker -1 1",
    "2 BEYOND drinker 0 0", "2 BEYOND drinker 0 10", "3 BEYOND of 10 0", "4 BEYOND change 10 0 0",
    "8 BEYOND forgive 10", "22 BEYOND kindFor 10 1", "23 BEYOND told 10 1", "30 FULL feed 65 1",
    "30 FULL feed 65 4", "30 BEYOND feed 65 0", "30 BEYOND feed 65 5", "33 BEYOND hold 0 10"
  };
  private static final String[] OF_A_LATE_ONE = {
    "10 STATE days 1", "10 STATE days 50", "10 BEYOND days 0", "10 BEYOND days 51", "10 BEYOND days max",
    "16 STATE ahead 1 0", "16 STATE ahead 100 5", "16 BEYOND ahead 101 0", "16 BEYOND ahead 1 6",
    "16 BEYOND ahead max 0", "17 STATE rests", "18 STATE tips 0 1", "18 STATE tips 999 10", "18 BEYOND tips -1 1",
    "18 BEYOND tips 1000 1", "18 BEYOND tips 0 0", "18 BEYOND tips 0 11", "19 STATE best 1", "19 STATE best 20",
    "19 BEYOND best 0", "19 BEYOND best 21", "20 STATE sign 1", "20 STATE sign 50", "20 BEYOND sign 0",
    "20 BEYOND sign 51", "21 STATE potFor 1", "21 STATE potFor 20", "21 BEYOND potFor 0", "21 BEYOND potFor 21",
    "22 STATE kindFor 0 1", "22 STATE kindFor 2 50", "22 BEYOND kindFor 3 1", "22 BEYOND kindFor -1 1",
    "22 BEYOND kindFor 0 0", "22 BEYOND kindFor 0 51", "23 STATE told 0 1", "23 STATE told 2 50",
    "23 BEYOND told 3 1", "23 BEYOND told -1 1", "23 BEYOND told 0 0", "23 BEYOND told 0 51", "28 STATE odds 1 0",
    "28 STATE odds 20 9999", "28 BEYOND odds 0 0", "28 BEYOND odds 21 0", "28 BEYOND odds 1 -1",
    "28 BEYOND odds 1 10000", "39 STATE judge 0", "39 MISSING judge 2", "39 BEYOND judge 4"
  };

  // A row: the promise, what may be z's alone to change (or nothing), the call.
  private static final String[] ASKED = {
    "3 nothing of 6 6", "9 nothing now 0", "9 nothing now 9", "11 nothing week 0 1", "12 nothing each 0",
    "12 nothing each 1", "13 nothing many 0", "13 nothing many 9999", "14 nothing who 42 0", "14 nothing who 42 1",
    "15 nothing fewest 42", "16 nothing ahead 0 0", "16 nothing ahead 100 0", "16 nothing ahead 100 1",
    "16 nothing ahead 100 2", "16 nothing ahead 100 3", "16 nothing ahead 100 4", "16 nothing ahead 100 5",
    "17 nothing rests", "18 nothing tips 0 1", "18 nothing tips 999 10", "19 nothing best 1", "19 nothing best 20",
    "20 nothing sign 1", "20 nothing sign 50", "21 nothing potFor 1", "21 nothing potFor 20",
    "22 nothing kindFor 0 1", "22 nothing kindFor 6 50", "23 nothing told 0 1", "23 nothing told 6 50",
    "24 nothing uneven 0", "24 nothing uneven 1", "24 nothing uneven 2", "25 z strokes", "26 nothing lacks",
    "27 nothing owes", "28 z odds 1 0", "28 z odds 20 9999", "34 nothing as 3 0", "39 nothing judge 0",
    "39 nothing judge 1", "39 nothing judge 3", "43 nothing count 0", "43 nothing count 7", "44 nothing status -1",
    "44 nothing status 6"
  };

  private interface Maker {
    TrustTin make();
  }

  public static void main(String[] args) throws ReflectiveOperationException {
    refuse(OF_A_NEW_ONE, TrustTin::new);
    refuse(OF_A_USED_ONE, UnchangedTest::used);
    refuse(OF_A_FULL_ONE, UnchangedTest::full);
    refuse(OF_A_LATE_ONE, UnchangedTest::late);
    oneByOne();
    ask();
    Dues.end();
  }

  private static void rest(TrustTin x) {
    x.sheet(0, 16, 3);
    x.write(0, 0, 3);
    x.write(0, 1, 9999);
    x.write(0, 2, 17);
    x.sheet(1, 8, 2);
    x.write(1, 1, 100);
    x.sheet(3, 32, 40);
    x.write(3, 0, 4321);
    x.write(3, 39, 77);
    x.hold(3, 0);
    x.hold(1, 1);
    x.hold(9, 2);
  }

  private static TrustTin used() {
    TrustTin x = Dues.with(0, 2, 1, 3, 2, 4, 3, 1, 4, 2, 5, 1, 6, 2);
    x.room(0, 7);
    x.room(1, 6);
    x.room(2, 1);
    x.days(7);
    x.image();
    x.days(1);
    x.taken(5);
    x.seed(x.count(6) + 1);
    rest(x);
    Dues.feed(x, "pot 8");
    return x;
  }

  private static TrustTin full() {
    TrustTin x = Dues.with(0, 1, 1, 1, 2, 1, 3, 1, 4, 1, 5, 1, 6, 1, 0, 1, 1, 1, 2, 1);
    x.days(3);
    rest(x);
    Dues.feed(x, "price 6; pot 20");
    while (x.count(5) < 120) {
      x.feed(' ', 1);
    }
    return x;
  }

  private static TrustTin late() {
    TrustTin x = Dues.with(2, 2, 1, 3, 6, 1);
    x.image();
    Dues.go(x, 9999);
    rest(x);
    return x;
  }

  private static int arg(String told) {
    switch (told) {
      case "min":
        return Integer.MIN_VALUE;
      case "max":
        return Integer.MAX_VALUE;
      default:
        return Integer.parseInt(told);
    }
  }

  private static int call(TrustTin x, String[] parts) throws ReflectiveOperationException {
    Class<?>[] types = new Class<?>[parts.length - 3];
    Object[] args = new Object[types.length];
    for (int i = 0; i < types.length; i++) {
      types[i] = int.class;
      args[i] = arg(parts[i + 3]);
    }
    Method method = TrustTin.class.getMethod(parts[2], types);
    return (Integer) method.invoke(x, args);
  }

  private static int[] counted(TrustTin x) {
    int[] counted = new int[8];
    for (int which = -1; which < 7; which++) {
      counted[which + 1] = x.status(which);
    }
    return counted;
  }

  private static void refuse(String[] rows, Maker maker) throws ReflectiveOperationException {
    for (String row : rows) {
      String[] parts = row.split(" ");
      int promise = Integer.parseInt(parts[0]);
      int finding = FINDINGS.indexOf(parts[1]);
      TrustTin x = maker.make();
      TrustTin twin = maker.make();
      int[] want = counted(x);
      want[0]++;
      want[1 + finding]++;
      Dues.due(promise, row, call(x, parts), Dues.BEYOND - finding);
      int[] got = counted(x);
      for (int i = 0; i < 8; i++) {
        Dues.due(44, row + ": status(" + (i - 1) + ")", got[i], want[i]);
      }
      dueTheSame(promise, row, x, twin);
    }
  }

  private static void dueTheSame(int promise, String row, TrustTin x, TrustTin twin) {
    List<Integer> own = all(x);
    List<Integer> twins = all(twin);
    int same = 0;
    while (same < own.size() && same < twins.size() && own.get(same).equals(twins.get(same))) {
      same++;
    }
    Dues.due(promise, row + ": told the same behind it", same, Math.max(own.size(), twins.size()));
  }

  private static void ask() throws ReflectiveOperationException {
    for (String row : ASKED) {
      String[] parts = row.split(" ");
      int promise = Integer.parseInt(parts[0]);
      TrustTin x = used();
      TrustTin twin = used();
      int findings = x.status(-1);
      call(x, parts);
      Dues.due(44, row + ": no finding", x.status(-1), findings);
      if (parts[1].equals("z")) {
        Dues.due(promise, row + ": z", x.seed(5) == twin.seed(5) ? 0 : 1, 1);
      }
      dueTheSame(promise, row, x, twin);
    }
  }

  /** All that can be asked, what is kept last; what it asks changes the object. */
  private static List<Integer> all(TrustTin x) {
    List<Integer> told = new ArrayList<>();
    room(x, told);
    told.add(x.count(5));
    sheets(x, told);
    told.add(x.text());
    told.add(x.count(2));
    told.add(x.count(3));
    told.add(x.undo());
    room(x, told);
    told.add(x.tear());
    return told;
  }

  private static void room(TrustTin x, List<Integer> told) {
    for (int what = 0; what < 10; what++) {
      told.add(x.now(what));
    }
    for (int what : new int[] {0, 1, 2, 3, 4, 6, 7}) {
      told.add(x.count(what));
    }
    for (int d = 0; d < x.count(0); d++) {
      for (int what = 0; what < 7; what++) {
        told.add(x.of(d, what));
      }
    }
    for (int i = 0; i < x.count(1); i++) {
      told.add(x.week(i, 0));
      told.add(x.week(i, 1));
    }
    for (int spot = 0; spot < 10; spot++) {
      told.add(x.as(spot, 0));
    }
  }

  private static void sheets(TrustTin x, List<Integer> told) {
    for (int s = 0; s < 4; s++) {
      told.add(x.load(s));
      for (int d = 0; d < x.count(0) && d < 3; d++) {
        told.add(x.of(d, 2));
      }
      for (int i : new int[] {2, 3, 39}) {
        told.add(x.write(s, i, 1));
      }
    }
    told.add(x.copy(3, 39, 3, 0, 1));
    told.add(x.load(3));
    told.add(x.now(7));
  }

  /** All refusals of one object, one behind the other: each is counted by its finding alone. */
  private static void oneByOne() throws ReflectiveOperationException {
    TrustTin x = used();
    int[] want = counted(x);
    for (String row : OF_A_USED_ONE) {
      int finding = FINDINGS.indexOf(row.split(" ")[1]);
      call(x, row.split(" "));
      want[0]++;
      want[1 + finding]++;
    }
    Dues.due(44, "status of all refusals", Arrays.equals(counted(x), want) ? 1 : 0, 1);
  }
}
