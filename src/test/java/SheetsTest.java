/** Promises 33 to 39. */
public final class SheetsTest {
  public static void main(String[] args) {
    spots();
    kinds();
    sheet();
    write();
    copy();
    load();
    judge();
    Dues.end();
  }

  private static void spots() {
    TrustTin x = Dues.with(0, 1, 1, 1);
    Dues.due(33, "hold", x.hold(0, 1), 1);
    Dues.due(33, "hold the same", x.hold(9, 1), 1);
    Dues.due(33, "spots that hold", x.count(7), 2);
    Dues.due(33, "as", x.as(9, 0), 1);
    Dues.due(33, "nothing", x.hold(9, -1), 1);
    Dues.due(33, "spots that hold", x.count(7), 1);
    Dues.due(34, "it holds nothing", x.as(9, 0), Dues.MISSING);
    Dues.due(33, "spot -1", x.hold(-1, 0), Dues.BEYOND);
    Dues.due(33, "spot 10", x.hold(10, 0), Dues.BEYOND);
    Dues.due(33, "drinker -2", x.hold(0, -2), Dues.BEYOND);
    Dues.due(33, "drinker 2", x.hold(0, 2), Dues.BEYOND);
    Dues.due(33, "nothing changed", x.as(0, 1), 1);
    Dues.due(34, "spot -1", x.as(-1, 0), Dues.BEYOND);
    Dues.due(34, "spot 10", x.as(10, 0), Dues.BEYOND);
    Dues.due(34, "kind -1", x.as(9, -1), Dues.BEYOND);
    Dues.due(34, "kind 7", x.as(9, 7), Dues.BEYOND);
  }

  private static void kinds() {
    // Of each kind the kinds as one of which it can be taken, as bits.
    int[] under = {1, 1 | 2, 1 | 4, 1 | 8, 1 | 4 | 16, 1 | 32, 1 | 2 | 64};
    TrustTin x = Dues.with(3, 1, 0, 1);
    x.hold(3, 1);
    for (int kind = 0; kind < 7; kind++) {
      x.change(1, 0, kind);
      for (int as = 0; as < 7; as++) {
        int want = (under[kind] >> as & 1) == 1 ? 1 : Dues.KIND;
        Dues.due(34, "kind " + kind + " as " + as, x.as(3, as), want);
      }
    }
  }

  private static void sheet() {
    TrustTin x = new TrustTin();
    Dues.due(35, "8 bits", x.sheet(0, 8, 40), 40);
    Dues.due(35, "16 bits", x.sheet(1, 16, 1), 1);
    Dues.due(35, "32 bits", x.sheet(3, 32, 0), 0);
    Dues.due(35, "none is no number", x.write(3, 0, 1), Dues.BEYOND);
    Dues.due(35, "sheet -1", x.sheet(-1, 8, 1), Dues.BEYOND);
    Dues.due(35, "sheet 4", x.sheet(4, 8, 1), Dues.BEYOND);
    Dues.due(35, "sheet 4, n -1", x.sheet(4, 8, -1), Dues.BEYOND);
    Dues.due(35, "24 bits", x.sheet(0, 24, 1), Dues.BEYOND);
    Dues.due(35, "-8 bits, n -1", x.sheet(0, -8, -1), Dues.BEYOND);
    Dues.due(35, "n -1", x.sheet(0, 8, -1), Dues.SIZE);
    Dues.due(35, "n -1, bits 0", x.sheet(0, 0, -1), Dues.SIZE);
    Dues.due(35, "n 41", x.sheet(0, 8, 41), Dues.BEYOND);
    Dues.due(35, "n 41, bits 0", x.sheet(0, 0, 41), Dues.BEYOND);
    Dues.due(35, "nothing changed", x.write(0, 39, 7), 1);
    Dues.due(35, "anew", x.sheet(0, 8, 40), 40);
    x.sheet(2, 8, 1);
    Dues.due(35, "all 0", x.copy(0, 39, 2, 0, 1), 1);
    Dues.due(35, "all 0", x.judge(2), 0);
    Dues.due(35, "missing", x.sheet(0, 0, 40), 0);
    Dues.due(35, "it is", x.write(0, 0, 1), Dues.MISSING);
  }

  /** Tells a number of a sheet, by what comes to a tin that a day brings so much to. */
  private static int number(TrustTin x, int s, int i, int bits) {
    x.sheet(3, bits, 1);
    x.copy(s, i, 3, 0, 1);
    x.drinker(0, 1);
    x.change(0, 2, 4321);
    return x.load(3) == 1 ? x.of(0, 2) : -1;
  }

  private static void write() {
    int[] bits = {8, 16, 32};
    int[] values = {127, 128, 255, 256 + 5, 32767, 32768, 65536 + 9, -1, 9999};
    int[][] wants = {
      {127, -1, -1, 5, -1, 0, 9, -1, 15},
      {127, 128, 255, 261, -1, -1, 9, -1, 9999},
      {127, 128, 255, 261, -1, -1, -1, -1, 9999}
    };
    for (int b = 0; b < bits.length; b++) {
      for (int i = 0; i < values.length; i++) {
        TrustTin x = new TrustTin();
        x.sheet(0, bits[b], 3);
        Dues.due(36, "write", x.write(0, 1, values[i]), 1);
        Dues.due(36, values[i] + " of " + bits[b] + " bits", number(x, 0, 1, bits[b]), wants[b][i]);
        Dues.due(36, "the one ahead of it", number(x, 0, 0, bits[b]), 0);
        Dues.due(36, "the one behind it", number(x, 0, 2, bits[b]), 0);
      }
    }
    TrustTin x = new TrustTin();
    x.sheet(0, 8, 2);
    Dues.due(36, "sheet -1", x.write(-1, 0, 1), Dues.BEYOND);
    Dues.due(36, "sheet 4", x.write(4, 0, 1), Dues.BEYOND);
    Dues.due(36, "missing", x.write(1, -1, 1), Dues.MISSING);
    Dues.due(36, "number -1", x.write(0, -1, 1), Dues.BEYOND);
    Dues.due(36, "number 2", x.write(0, 2, 1), Dues.BEYOND);
  }

  private static TrustTin withRow(int s, int... numbers) {
    TrustTin x = new TrustTin();
    fill(x, s, numbers);
    return x;
  }

  private static void fill(TrustTin x, int s, int... numbers) {
    x.sheet(s, 16, numbers.length);
    for (int i = 0; i < numbers.length; i++) {
      x.write(s, i, numbers[i]);
    }
  }

  private static void dueRow(String what, TrustTin x, int s, int... wants) {
    for (int i = 0; i < wants.length; i++) {
      Dues.due(37, what + ", number " + i, number(x, s, i, 16), wants[i]);
    }
  }

  private static void copy() {
    TrustTin x = withRow(0, 1, 2, 3, 4, 5);
    Dues.due(37, "upwards in one", x.copy(0, 0, 0, 1, 4), 4);
    dueRow("upwards", x, 0, 1, 1, 2, 3, 4);
    x = withRow(0, 1, 2, 3, 4, 5);
    Dues.due(37, "downwards in one", x.copy(0, 2, 0, 1, 3), 3);
    dueRow("downwards", x, 0, 1, 3, 4, 5, 5);
    fill(x, 1, 7, 8, 9);
    Dues.due(37, "to another", x.copy(1, 1, 0, 3, 2), 2);
    dueRow("to another", x, 0, 1, 3, 4, 8, 9);
    dueRow("stays", x, 1, 7, 8, 9);
    Dues.due(37, "none", x.copy(1, 3, 0, 5, 0), 0);
    Dues.due(37, "none, from beyond", x.copy(1, 4, 0, 5, 0), Dues.BEYOND);
    Dues.due(37, "none, to beyond", x.copy(1, 3, 0, 6, 0), Dues.BEYOND);
    Dues.due(37, "source has not so many", x.copy(1, 1, 0, 0, 3), Dues.BEYOND);
    Dues.due(37, "target has not so many", x.copy(0, 0, 1, 1, 3), Dues.BEYOND);
    Dues.due(37, "from -1", x.copy(1, -1, 0, 0, 1), Dues.BEYOND);
    Dues.due(37, "to -1", x.copy(1, 0, 0, -1, 1), Dues.BEYOND);
    Dues.due(37, "n -1", x.copy(1, 1, 0, 1, -1), Dues.BEYOND);
    Dues.due(37, "sums that go round", x.copy(1, 2, 0, 2, Integer.MAX_VALUE), Dues.BEYOND);
    Dues.due(37, "from far", x.copy(1, Integer.MAX_VALUE, 0, 2, 2), Dues.BEYOND);
    dueRow("nothing changed", x, 0, 1, 3, 4, 8, 9);
    x.sheet(2, 32, 5);
    x.sheet(3, 0, 0);
    Dues.due(37, "other bits", x.copy(2, -1, 0, 0, 1), Dues.KIND);
    Dues.due(37, "source is missing", x.copy(3, 0, 2, 0, -1), Dues.MISSING);
    Dues.due(37, "target is missing", x.copy(0, 0, 3, 0, 1), Dues.MISSING);
    Dues.due(37, "sheet -1", x.copy(-1, 0, 3, 0, 1), Dues.BEYOND);
    Dues.due(37, "to sheet 4", x.copy(3, 0, 4, 0, 1), Dues.BEYOND);
  }

  private static void load() {
    TrustTin x = withRow(2, 5, 0, 9999, 10000, 7);
    Dues.due(38, "no drinkers", x.load(2), 0);
    x.drinker(0, 1);
    x.drinker(0, 1);
    Dues.due(38, "two drinkers", x.load(2), 2);
    Dues.due(38, "purse 0", x.of(0, 2), 5);
    Dues.due(38, "purse 1", x.of(1, 2), 0);
    for (int d = 2; d < 6; d++) {
      x.drinker(0, 1);
    }
    Dues.due(38, "to the one that is too much", x.load(2), 3);
    Dues.due(38, "purse 2", x.of(2, 2), 9999);
    Dues.due(38, "purse 3", x.of(3, 2), 200);
    Dues.due(38, "purse 4", x.of(4, 2), 200);
    x.write(2, 0, -1);
    Dues.due(38, "none came", x.load(2), 0);
    x.sheet(2, 8, 2);
    Dues.due(38, "all came", x.load(2), 2);
    x.sheet(2, 8, 0);
    Dues.due(38, "of none", x.load(2), 0);
    Dues.due(38, "sheet -1", x.load(-1), Dues.BEYOND);
    Dues.due(38, "sheet 4", x.load(4), Dues.BEYOND);
    Dues.due(38, "missing", x.load(1), Dues.MISSING);
  }

  private static void judge() {
    TrustTin x = withRow(0, 10, 15, 10, 10, 45);
    x.drinker(0, 2);
    x.drinker(2, 1);
    x.drinker(1, 1);
    // 4, 2, 6, 3, 7: the one who forgets pays on the days 1, 3 and 5; the debt of 25 comes on the fifth.
    Dues.due(39, "the first", x.judge(0), 1);
    x.write(0, 0, 15);
    Dues.due(39, "the second", x.judge(0), 2);
    x.write(0, 1, 10);
    Dues.due(39, "the third", x.judge(0), 3);
    x.write(0, 2, 15);
    Dues.due(39, "the fifth", x.judge(0), 5);
    x.write(0, 4, 40);
    Dues.due(39, "all", x.judge(0), 0);
    Dues.due(39, "z stays", x.count(6), 1);
    Dues.due(39, "day stays", x.now(0), 0);
    x.sheet(0, 8, 0);
    Dues.due(39, "none", x.judge(0), 0);
    Dues.due(39, "sheet -1", x.judge(-1), Dues.BEYOND);
    Dues.due(39, "sheet 4", x.judge(4), Dues.BEYOND);
    Dues.due(39, "missing", x.judge(1), Dues.MISSING);
  }
}
