/** Promises 33 to 39. */
public final class SheetsTest {
  public static void main(String[] args) {
    spots();
    allSpots();
    kinds();
    sheet();
    sheetSizes();
    write();
    copy();
    copyAll();
    load();
    loadEdges();
    judge();
    judgeForty();
    Dues.end();
  }

  private static void spots() {
    TrustTin x = Dues.with(0, 1, 1, 1);
    Dues.due(33, "hold", x.hold(0, 1), 1);
    Dues.due(33, "hold the same", x.hold(9, 1), 1);
    Dues.due(33, "spots that hold", x.count(7), 2);
    Dues.due(33, "as", x.as(9, 0), 1);
    Dues.due(33, "nothing", x.hold(9, -1), 1);
    Dues.due(33, "spots that hold", x.count(7), 1);
    Dues.due(34, "it holds nothing", x.as(9, 0), Dues.MISSING);
    Dues.due(33, "spot -1", x.hold(-1, 0), Dues.BEYOND);
    Dues.due(33, "spot 10", x.hold(10, 0), Dues.BEYOND);
    Dues.due(33, "drinker -2", x.hold(0, -2), Dues.BEYOND);
    Dues.due(33, "drinker 2", x.hold(0, 2), Dues.BEYOND);
    Dues.due(33, "nothing changed", x.as(0, 1), 1);
    Dues.due(34, "spot -1", x.as(-1, 0), Dues.BEYOND);
    Dues.due(34, "spot 10", x.as(10, 0), Dues.BEYOND);
    Dues.due(34, "kind -1", x.as(9, -1), Dues.BEYOND);
    Dues.due(34, "kind 7", x.as(9, 7), Dues.BEYOND);
  }

  private static void allSpots() {
    TrustTin x = Dues.with(0, 1, 0, 1, 0, 1, 0, 1, 0, 1, 0, 1, 0, 1, 0, 1, 0, 1, 0, 1);
    for (int spot = 0; spot < 10; spot++) {
      Dues.due(33, "nothing where nothing was", x.hold(spot, -1), 1);
      Dues.due(33, "hold", x.hold(spot, 9 - spot), 1);
      Dues.due(43, "spots that hold", x.count(7), spot + 1);
    }
    for (int spot = 0; spot < 10; spot++) {
      Dues.due(34, "as", x.as(spot, 0), 9 - spot);
    }
    Dues.due(33, "another one", x.hold(4, 0), 1);
    Dues.due(34, "that one", x.as(4, 0), 0);
    Dues.due(43, "ten", x.count(7), 10);
  }

  private static void kinds() {
    // Of each kind the kinds as one of which it can be taken, as bits.
    int[] under = {1, 1 | 2, 1 | 4, 1 | 8, 1 | 4 | 16, 1 | 32, 1 | 2 | 64};
    TrustTin x = Dues.with(3, 1, 0, 1);
    x.hold(3, 1);
    for (int kind = 0; kind < 7; kind++) {
      x.change(1, 0, kind);
      for (int as = 0; as < 7; as++) {
        int want = (under[kind] >> as & 1) == 1 ? 1 : Dues.KIND;
        Dues.due(34, "kind " + kind + " as " + as, x.as(3, as), want);
      }
    }
  }

  private static void sheet() {
    TrustTin x = new TrustTin();
    Dues.due(35, "8 bits", x.sheet(0, 8, 40), 40);
    Dues.due(35, "16 bits", x.sheet(1, 16, 1), 1);
    Dues.due(35, "32 bits", x.sheet(3, 32, 0), 0);
    Dues.due(35, "none is no number", x.write(3, 0, 1), Dues.BEYOND);
    Dues.due(35, "sheet -1", x.sheet(-1, 8, 1), Dues.BEYOND);
    Dues.due(35, "sheet 4", x.sheet(4, 8, 1), Dues.BEYOND);
    Dues.due(35, "sheet 4, n -1", x.sheet(4, 8, -1), Dues.BEYOND);
    Dues.due(35, "24 bits", x.sheet(0, 24, 1), Dues.BEYOND);
    Dues.due(35, "-8 bits, n -1", x.sheet(0, -8, -1), Dues.BEYOND);
    Dues.due(35, "n -1", x.sheet(0, 8, -1), Dues.SIZE);
    Dues.due(35, "n -1, bits 0", x.sheet(0, 0, -1), Dues.SIZE);
    Dues.due(35, "n 41", x.sheet(0, 8, 41), Dues.BEYOND);
    Dues.due(35, "n 41, bits 0", x.sheet(0, 0, 41), Dues.BEYOND);
    Dues.due(35, "nothing changed", x.write(0, 39, 7), 1);
    Dues.due(35, "anew", x.sheet(0, 8, 40), 40);
    x.sheet(2, 8, 1);
    Dues.due(35, "all 0", x.copy(0, 39, 2, 0, 1), 1);
    Dues.due(35, "all 0", x.judge(2), 0);
    Dues.due(35, "missing", x.sheet(0, 0, 40), 0);
    Dues.due(35, "it is", x.write(0, 0, 1), Dues.MISSING);
  }

  /** Tells a number of a sheet, by what comes to a tin that a day brings so much to. */
  private static int number(TrustTin x, int s, int i, int bits) {
    x.sheet(3, bits, 1);
    x.copy(s, i, 3, 0, 1);
    x.drinker(0, 1);
    x.change(0, 2, 4321);
    return x.load(3) == 1 ? x.of(0, 2) : -1;
  }

  private static void write() {
    int[] bits = {8, 16, 32};
    int[] values = {127, 128, 255, 256 + 5, 32767, 32768, 65536 + 9, -1, 9999};
    int[][] wants = {
      {127, -1, -1, 5, -1, 0, 9, -1, 15},
      {127, 128, 255, 261, -1, -1, 9, -1, 9999},
      {127, 128, 255, 261, -1, -1, -1, -1, 9999}
    };
    for (int b = 0; b < bits.length; b++) {
      for (int i = 0; i < values.length; i++) {
        TrustTin x = new TrustTin();
        x.sheet(0, bits[b], 3);
        Dues.due(36, "write", x.write(0, 1, values[i]), 1);
        Dues.due(36, values[i] + " of " + bits[b] + " bits", number(x, 0, 1, bits[b]), wants[b][i]);
        Dues.due(36, "the one ahead of it", number(x, 0, 0, bits[b]), 0);
        Dues.due(36, "the one behind it", number(x, 0, 2, bits[b]), 0);
      }
    }
    TrustTin x = new TrustTin();
    x.sheet(0, 8, 2);
    Dues.due(36, "sheet -1", x.write(-1, 0, 1), Dues.BEYOND);
    Dues.due(36, "sheet 4", x.write(4, 0, 1), Dues.BEYOND);
    Dues.due(36, "missing", x.write(1, -1, 1), Dues.MISSING);
    Dues.due(36, "number -1", x.write(0, -1, 1), Dues.BEYOND);
    Dues.due(36, "number 2", x.write(0, 2, 1), Dues.BEYOND);
  }

  private static TrustTin withRow(int s, int... numbers) {
    TrustTin x = new TrustTin();
    fill(x, s, numbers);
    return x;
  }

  private static void fill(TrustTin x, int s, int... numbers) {
    x.sheet(s, 16, numbers.length);
    for (int i = 0; i < numbers.length; i++) {
      x.write(s, i, numbers[i]);
    }
  }

  private static void dueRow(String what, TrustTin x, int s, int... wants) {
    for (int i = 0; i < wants.length; i++) {
      Dues.due(37, what + ", number " + i, number(x, s, i, 16), wants[i]);
    }
  }

  private static void copy() {
    TrustTin x = withRow(0, 1, 2, 3, 4, 5);
    Dues.due(37, "upwards in one", x.copy(0, 0, 0, 1, 4), 4);
    dueRow("upwards", x, 0, 1, 1, 2, 3, 4);
    x = withRow(0, 1, 2, 3, 4, 5);
    Dues.due(37, "downwards in one", x.copy(0, 2, 0, 1, 3), 3);
    dueRow("downwards", x, 0, 1, 3, 4, 5, 5);
    fill(x, 1, 7, 8, 9);
    Dues.due(37, "to another", x.copy(1, 1, 0, 3, 2), 2);
    dueRow("to another", x, 0, 1, 3, 4, 8, 9);
    dueRow("stays", x, 1, 7, 8, 9);
    Dues.due(37, "none", x.copy(1, 3, 0, 5, 0), 0);
    Dues.due(37, "none, from beyond", x.copy(1, 4, 0, 5, 0), Dues.BEYOND);
    Dues.due(37, "none, to beyond", x.copy(1, 3, 0, 6, 0), Dues.BEYOND);
    Dues.due(37, "source has not so many", x.copy(1, 1, 0, 0, 3), Dues.BEYOND);
    Dues.due(37, "target has not so many", x.copy(0, 0, 1, 1, 3), Dues.BEYOND);
    Dues.due(37, "from -1", x.copy(1, -1, 0, 0, 1), Dues.BEYOND);
    Dues.due(37, "to -1", x.copy(1, 0, 0, -1, 1), Dues.BEYOND);
    Dues.due(37, "n -1", x.copy(1, 1, 0, 1, -1), Dues.BEYOND);
    Dues.due(37, "sums that go round", x.copy(1, 2, 0, 2, Integer.MAX_VALUE), Dues.BEYOND);
    Dues.due(37, "from far", x.copy(1, Integer.MAX_VALUE, 0, 2, 2), Dues.BEYOND);
    dueRow("nothing changed", x, 0, 1, 3, 4, 8, 9);
    x.sheet(2, 32, 5);
    x.sheet(3, 0, 0);
    Dues.due(37, "other bits", x.copy(2, -1, 0, 0, 1), Dues.KIND);
    Dues.due(37, "source is missing", x.copy(3, 0, 2, 0, -1), Dues.MISSING);
    Dues.due(37, "target is missing", x.copy(0, 0, 3, 0, 1), Dues.MISSING);
    Dues.due(37, "sheet -1", x.copy(-1, 0, 3, 0, 1), Dues.BEYOND);
    Dues.due(37, "to sheet 4", x.copy(3, 0, 4, 0, 1), Dues.BEYOND);
  }

  private static void load() {
    TrustTin x = withRow(2, 5, 0, 9999, 10000, 7);
    Dues.due(38, "no drinkers", x.load(2), 0);
    x.drinker(0, 1);
    x.drinker(0, 1);
    Dues.due(38, "two drinkers", x.load(2), 2);
    Dues.due(38, "purse 0", x.of(0, 2), 5);
    Dues.due(38, "purse 1", x.of(1, 2), 0);
    for (int d = 2; d < 6; d++) {
      x.drinker(0, 1);
    }
    Dues.due(38, "to the one that is too much", x.load(2), 3);
    Dues.due(38, "purse 2", x.of(2, 2), 9999);
    Dues.due(38, "purse 3", x.of(3, 2), 200);
    Dues.due(38, "purse 4", x.of(4, 2), 200);
    x.write(2, 0, -1);
    Dues.due(38, "none came", x.load(2), 0);
    x.sheet(2, 8, 2);
    Dues.due(38, "all came", x.load(2), 2);
    x.sheet(2, 8, 0);
    Dues.due(38, "of none", x.load(2), 0);
    Dues.due(38, "sheet -1", x.load(-1), Dues.BEYOND);
    Dues.due(38, "sheet 4", x.load(4), Dues.BEYOND);
    Dues.due(38, "missing", x.load(1), Dues.MISSING);
  }

  private static void judge() {
    TrustTin x = withRow(0, 10, 15, 10, 10, 45);
    x.drinker(0, 2);
    x.drinker(2, 1);
    x.drinker(1, 1);
    // 4, 2, 6, 3, 7: the one who forgets pays on the days 1, 3 and 5; the debt of 25 comes on the fifth.
    Dues.due(39, "the first", x.judge(0), 1);
    x.write(0, 0, 15);
    Dues.due(39, "the second", x.judge(0), 2);
    x.write(0, 1, 10);
    Dues.due(39, "the third", x.judge(0), 3);
    x.write(0, 2, 15);
    Dues.due(39, "the fifth", x.judge(0), 5);
    x.write(0, 4, 40);
    Dues.due(39, "all", x.judge(0), 0);
    Dues.due(39, "z stays", x.count(6), 1);
    Dues.due(39, "day stays", x.now(0), 0);
    x.sheet(0, 8, 0);
    Dues.due(39, "none", x.judge(0), 0);
    Dues.due(39, "sheet -1", x.judge(-1), Dues.BEYOND);
    Dues.due(39, "sheet 4", x.judge(4), Dues.BEYOND);
    Dues.due(39, "missing", x.judge(1), Dues.MISSING);
  }

  private static void sheetSizes() {
    for (int bits : new int[] {8, 16, 32}) {
      for (int n : new int[] {0, 1, 39, 40}) {
        TrustTin x = new TrustTin();
        Dues.due(35, bits + " bits, n " + n, x.sheet(3, bits, n), n);
        Dues.due(36, "the last one", x.write(3, n - 1, 1), n == 0 ? Dues.BEYOND : 1);
        Dues.due(36, "the one behind it", x.write(3, n, 1), Dues.BEYOND);
        Dues.due(37, "all of it, to itself", x.copy(3, 0, 3, 0, n), n);
        Dues.due(37, "one more", x.copy(3, 0, 3, 0, n + 1), Dues.BEYOND);
        Dues.due(35, "missing then", x.sheet(3, 0, n), 0);
        Dues.due(36, "it is missing", x.write(3, 0, 1), Dues.MISSING);
        Dues.due(37, "it is missing", x.copy(3, 0, 3, 0, 0), Dues.MISSING);
        Dues.due(38, "it is missing", x.load(3), Dues.MISSING);
        Dues.due(39, "it is missing", x.judge(3), Dues.MISSING);
        Dues.due(35, "missing again", x.sheet(3, 0, 0), 0);
        Dues.due(35, "anew", x.sheet(3, bits, n), n);
        Dues.due(39, "all 0 anew", x.judge(3), 0);
      }
    }
  }

  private static void copyAll() {
    TrustTin x = new TrustTin();
    x.drinker(1, 1);
    x.sheet(0, 8, 40);
    x.sheet(1, 8, 40);
    for (int i = 0; i < 40; i++) {
      x.write(0, i, i);
    }
    Dues.due(37, "forty", x.copy(0, 0, 1, 0, 40), 40);
    Dues.due(37, "the last one of forty", x.copy(0, 39, 1, 0, 1), 1);
    Dues.due(37, "to the last one of forty", x.copy(0, 7, 1, 39, 1), 1);
    x.load(1);
    Dues.due(37, "39 came", x.of(0, 2), 39);
    x.copy(1, 39, 1, 0, 1);
    x.load(1);
    Dues.due(37, "7 came", x.of(0, 2), 7);
    x.copy(1, 38, 1, 0, 1);
    x.load(1);
    Dues.due(37, "38 stands", x.of(0, 2), 38);
    // Far up and far down in one, so that a copy number by number would run over itself.
    Dues.due(37, "up by one", x.copy(0, 0, 0, 1, 39), 39);
    Dues.due(37, "down to the begin", x.copy(0, 39, 0, 0, 1), 1);
    x.load(0);
    Dues.due(37, "as they all were", x.of(0, 2), 38);
    x.write(0, 0, 1);
    Dues.due(37, "down by one", x.copy(0, 1, 0, 0, 39), 39);
    Dues.due(37, "none at the end of both", x.copy(0, 40, 1, 40, 0), 0);
  }

  private static void loadEdges() {
    int[] numbers = {0, 1, 9998, 9999, 10000, -1, Integer.MIN_VALUE, Integer.MAX_VALUE, 65536};
    for (int v : numbers) {
      TrustTin x = Dues.with(0, 1, 0, 1, 0, 1);
      x.sheet(0, 32, 3);
      x.write(0, 0, 5);
      x.write(0, 1, v);
      x.write(0, 2, 6);
      boolean fits = v >= 0 && v <= 9999;
      Dues.due(38, "5, " + v + ", 6", x.load(0), fits ? 3 : 1);
      Dues.due(38, "ahead of " + v, x.of(0, 2), 5);
      Dues.due(38, "purse of " + v, x.of(1, 2), fits ? v : 200);
      Dues.due(38, "behind " + v, x.of(2, 2), fits ? 6 : 200);
    }
    TrustTin x = Dues.with(0, 1, 0, 1, 0, 1, 0, 1, 0, 1, 0, 1, 0, 1, 0, 1, 0, 1, 0, 1);
    x.sheet(0, 8, 40);
    Dues.due(38, "ten of forty", x.load(0), 10);
    Dues.due(38, "nothing is left", x.now(7), 0);
  }

  private static void judgeForty() {
    TrustTin x = Dues.with(0, 1);
    x.change(0, 2, 9999);
    x.sheet(2, 8, 40);
    for (int i = 0; i < 40; i++) {
      x.write(2, i, 5);
    }
    Dues.due(39, "forty days", x.judge(2), 0);
    x.write(2, 39, 6);
    Dues.due(39, "all but the fortieth", x.judge(2), 40);
    x.write(2, 38, -5);
    Dues.due(39, "the first of two", x.judge(2), 39);
    x.write(2, 0, 5 + 256);
    Dues.due(39, "5 of 8 bits", x.judge(2), 39);
    x.write(2, 38, 5);
    x.write(2, 39, 5);
    Dues.go(x, 9959);
    x.change(0, 2, 9999);
    Dues.due(39, "9959 and 40", x.judge(2), 0);
    x.days(1);
    Dues.due(39, "9960 and 40", x.judge(2), Dues.STATE);
    x.sheet(2, 8, 39);
    Dues.due(39, "9960 and 39", x.judge(2), 1);
  }
}
