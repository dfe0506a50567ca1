/** Promises 1 to 9. */
public final class DrinkersTest {
  public static void main(String[] args) {
    aNewObject();
    drinker();
    of();
    change();
    room();
    tin();
    forgive();
    now();
    Dues.end();
  }

  private static void aNewObject() {
    TrustTin x = new TrustTin();
    int[] counts = {0, 0, 5, 12, 0, 0, 1, 0};
    for (int i = 0; i < counts.length; i++) {
      Dues.due(1, "count(" + i + ")", x.count(i), counts[i]);
    }
    int[] nows = {0, 0, 12, 100, 0, 0, 0, 0, 0, 0};
    for (int i = 0; i < nows.length; i++) {
      Dues.due(1, "now(" + i + ")", x.now(i), nows[i]);
    }
    for (int i = -1; i < 7; i++) {
      Dues.due(1, "status(" + i + ")", x.status(i), 0);
    }
    Dues.due(1, "week", x.week(0, 0), Dues.NONE);
    Dues.due(1, "undo", x.undo(), Dues.NONE);
    Dues.due(1, "tear", x.tear(), 0);
    Dues.due(1, "wipe", x.wipe(), 0);
    for (int i = 0; i < 10; i++) {
      Dues.due(1, "as", x.as(i, 0), Dues.MISSING);
    }
    for (int s = 0; s < 4; s++) {
      Dues.due(1, "write", x.write(s, 0, 1), Dues.MISSING);
    }
    TrustTin y = new TrustTin();
    y.drinker(0, 1);
    y.image();
    Dues.due(1, "an object of its own", x.count(0), 0);
    Dues.due(1, "an image of its own", x.undo(), Dues.NONE);
  }

  private static void drinker() {
    TrustTin x = new TrustTin();
    Dues.due(2, "kind -1", x.drinker(-1, 1), Dues.BEYOND);
    Dues.due(2, "kind 7", x.drinker(7, 1), Dues.BEYOND);
    Dues.due(2, "cups 0", x.drinker(0, 0), Dues.BEYOND);
    Dues.due(2, "cups 10", x.drinker(0, 10), Dues.BEYOND);
    Dues.due(2, "count", x.count(0), 0);
    for (int i = 0; i < 10; i++) {
      Dues.due(2, "drinker", x.drinker(i % 7, i % 9 + 1), i);
    }
    Dues.due(2, "an 11th", x.drinker(0, 1), Dues.FULL);
    Dues.due(2, "an 11th of no kind", x.drinker(7, 1), Dues.BEYOND);
    Dues.due(2, "an 11th of no cups", x.drinker(0, 0), Dues.BEYOND);
    Dues.due(2, "count", x.count(0), 10);
    for (int i = 0; i < 10; i++) {
      Dues.due(2, "kind", x.of(i, 0), i % 7);
      Dues.due(2, "cups", x.of(i, 1), i % 9 + 1);
    }
  }

  private static void of() {
    TrustTin x = Dues.with(1, 3, 0, 9);
    int[] first = {1, 3, 200, 20, 0, 0, 0};
    for (int what = 0; what < first.length; what++) {
      Dues.due(3, "of(0, " + what + ")", x.of(0, what), first[what]);
    }
    x.days(1);
    int[] later = {1, 3, 200, 20, 15, 3, 0};
    int[] each = {0, 9, 155, 20, 0, 9, 45};
    for (int what = 0; what < 7; what++) {
      Dues.due(3, "of(0, " + what + ") behind a day", x.of(0, what), later[what]);
      Dues.due(3, "of(1, " + what + ") behind a day", x.of(1, what), each[what]);
    }
    Dues.due(3, "drinker -1", x.of(-1, 0), Dues.BEYOND);
    Dues.due(3, "drinker 2", x.of(2, 0), Dues.BEYOND);
    Dues.due(3, "drinker 10", x.of(10, 0), Dues.BEYOND);
    Dues.due(3, "what -1", x.of(0, -1), Dues.BEYOND);
    Dues.due(3, "what 7", x.of(0, 7), Dues.BEYOND);
  }

  private static void change() {
    TrustTin x = Dues.with(0, 2, 3, 4);
    int[] low = {0, 1, 0, 0};
    int[] high = {6, 9, 9999, 99};
    int[] was = {3, 4, 200, 20};
    for (int what = 0; what < 4; what++) {
      Dues.due(4, "below", x.change(1, what, low[what] - 1), Dues.BEYOND);
      Dues.due(4, "above", x.change(1, what, high[what] + 1), Dues.BEYOND);
      Dues.due(4, "nothing changed", x.of(1, what), was[what]);
      Dues.due(4, "to the least", x.change(1, what, low[what]), was[what]);
      Dues.due(4, "to the most", x.change(1, what, high[what]), low[what]);
      Dues.due(4, "as it is", x.of(1, what), high[what]);
    }
    Dues.due(4, "the other one's", x.of(0, 2), 200);
    Dues.due(4, "debt", x.change(0, 4, 1), Dues.BEYOND);
    Dues.due(4, "what -1", x.change(0, -1, 1), Dues.BEYOND);
    Dues.due(4, "drinker 2", x.change(2, 0, 0), Dues.BEYOND);
    Dues.due(4, "drinker -1", x.change(-1, 0, 0), Dues.BEYOND);
  }

  private static void room() {
    TrustTin x = new TrustTin();
    int[] low = {0, 1, 0};
    int[] high = {99, 99, 2};
    int[] was = {5, 12, 0};
    for (int what = 0; what < 3; what++) {
      Dues.due(5, "below", x.room(what, low[what] - 1), Dues.BEYOND);
      Dues.due(5, "above", x.room(what, high[what] + 1), Dues.BEYOND);
      Dues.due(5, "nothing changed", x.count(2 + what), was[what]);
      Dues.due(5, "left", x.now(2), 12);
      Dues.due(5, "to the least", x.room(what, low[what]), was[what]);
      Dues.due(5, "to the most", x.room(what, high[what]), low[what]);
      Dues.due(5, "as it is", x.count(2 + what), high[what]);
      x.room(1, 12);
    }
    Dues.due(5, "pot", x.room(1, 7), 12);
    Dues.due(5, "left is the pot's", x.now(2), 7);
    Dues.due(5, "what -1", x.room(-1, 1), Dues.BEYOND);
    Dues.due(5, "what 3", x.room(3, 1), Dues.BEYOND);
  }

  private static void tin() {
    TrustTin x = Dues.with(0, 9);
    x.days(1);
    Dues.due(7, "0", x.taken(0), Dues.BEYOND);
    Dues.due(7, "-1", x.taken(-1), Dues.BEYOND);
    Dues.due(7, "1000", x.taken(1000), Dues.BEYOND);
    Dues.due(7, "nothing is gone", x.now(1), 45);
    Dues.due(7, "1", x.taken(1), 1);
    Dues.due(7, "14", x.taken(14), 14);
    Dues.due(7, "30 are left", x.now(1), 30);
    Dues.due(7, "more than there is", x.taken(999), 30);
    Dues.due(7, "nothing is left", x.taken(1), 0);
    Dues.due(7, "paid stays", x.now(9), 45);
    x.days(4);
    Dues.due(7, "what was taken came all the same", x.week(0, 1), 200);
    Dues.due(6, "empty", x.empty(), 155);
    Dues.due(6, "emptied", x.now(1), 0);
    Dues.due(6, "empty again", x.empty(), 0);
  }

  private static void forgive() {
    TrustTin x = Dues.with(1, 2, 1, 3);
    x.days(1);
    Dues.due(8, "forgive(0)", x.forgive(0), 10);
    Dues.due(8, "forgiven", x.of(0, 4), 0);
    Dues.due(8, "the other's debt", x.of(1, 4), 15);
    Dues.due(8, "again", x.forgive(0), 0);
    Dues.due(8, "drinker -1", x.forgive(-1), Dues.BEYOND);
    Dues.due(8, "drinker 2", x.forgive(2), Dues.BEYOND);
  }

  private static void now() {
    TrustTin x = Dues.with(0, 2, 1, 3, 5, 1, 3, 9);
    x.room(1, 6);
    x.seed(Dues.seedWith(9));
    x.days(1);
    int[] nows = {1, 20, 6, 100, 30, 1, 15, 780, 6, 20};
    for (int i = 0; i < nows.length; i++) {
      Dues.due(9, "now(" + i + ")", x.now(i), nows[i]);
    }
    x.room(0, 7);
    Dues.due(9, "due goes by the price", x.now(4), 42);
    Dues.due(9, "what -1", x.now(-1), Dues.BEYOND);
    Dues.due(9, "what 10", x.now(10), Dues.BEYOND);
  }
}
