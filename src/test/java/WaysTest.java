/** Promises 24 to 29. */
public final class WaysTest {
  private static final int EACH = 0;
  private static final int LATER = 1;
  private static final int FORGETS = 2;
  private static final int NEVER = 3;
  private static final int TWICE = 5;

  public static void main(String[] args) {
    uneven();
    unevenOfSeveral();
    unevenOfTen();
    strokes();
    strokesByRests();
    lacks();
    owes();
    odds();
    oddsEdges();
    seed();
    Dues.end();
  }

  private static void uneven() {
    TrustTin x = Dues.with(EACH, 1, TWICE, 1, NEVER, 2, EACH, 1);
    x.change(3, 3, 0);
    Dues.due(24, "nobody has drunk", x.uneven(0), Dues.NONE);
    Dues.due(24, "way -1", x.uneven(-1), Dues.BEYOND);
    Dues.due(24, "way 3", x.uneven(3), Dues.BEYOND);
    x.days(1);
    Dues.due(24, "as it is", x.uneven(0), 1000);
    Dues.due(24, "strokes", x.uneven(1), 0);
    // 20 by the three who have drunk is 6: 600 for one cup, 300 for each of two.
    Dues.due(24, "a levy", x.uneven(2), 300);
    x = Dues.with(EACH, 3, EACH, 1);
    x.change(0, 2, 10);
    x.days(1);
    Dues.due(24, "hundredths are cut", x.uneven(0), 500 - 333);
    x.days(4);
    Dues.due(24, "the week is over", x.uneven(0), Dues.NONE);
    x = Dues.with(NEVER, 2);
    x.days(1);
    Dues.due(24, "one alone", x.uneven(0), 0);
    x = Dues.with(NEVER, 1, EACH, 1);
    x.days(1);
    Dues.due(24, "the least is the first one's", x.uneven(0), 500);
    x = Dues.with(EACH, 1, NEVER, 1);
    x.days(1);
    Dues.due(24, "the greatest is the first one's", x.uneven(0), 500);
  }

  private static void strokes() {
    TrustTin x = Dues.with(EACH, 1, EACH, 2);
    Dues.due(25, "no cups", x.strokes(), 0);
    Dues.due(25, "no draws", x.count(6), 1);
    x.days(1);
    Dues.due(25, "4, 2, 6", x.strokes(), 3);
    Dues.due(25, "three draws", x.count(6), Dues.after(1, 3));
    x.seed(2);
    Dues.due(25, "1, 7, 3", x.strokes(), 4);
    x.change(1, 1, 3);
    x.days(1);
    x.seed(3);
    Dues.due(25, "7, 1, 3, 3, 1, 2, 0", x.strokes(), 8);
    Dues.due(25, "drunk stays", x.now(8), 7);
  }

  private static void lacks() {
    TrustTin x = Dues.with(NEVER, 2, LATER, 1, TWICE, 1);
    Dues.due(26, "nothing", x.lacks(), 0);
    x.days(1);
    Dues.due(26, "20 less 10 and 5", x.lacks(), 5);
    x.taken(10);
    Dues.due(26, "what is taken is not asked", x.lacks(), 5);
    x.change(0, 1, 1);
    x.days(4);
    Dues.due(26, "a new week", x.lacks(), 0);
    x = Dues.with(TWICE, 3);
    x.days(1);
    Dues.due(26, "over", x.lacks(), -15);
    Dues.due(26, "no finding", x.status(-1), 0);
  }

  private static void owes() {
    TrustTin x = new TrustTin();
    Dues.due(27, "no drinkers", x.owes(), Dues.NONE);
    x = Dues.with(TWICE, 1, EACH, 2, NEVER, 2, LATER, 2, NEVER, 1);
    Dues.due(27, "all the same", x.owes(), 0);
    x.days(1);
    Dues.due(27, "the least of two", x.owes(), 2);
    x.change(4, 1, 9);
    x.days(1);
    Dues.due(27, "most", x.owes(), 4);
    x = Dues.with(TWICE, 2, TWICE, 1);
    x.days(1);
    Dues.due(27, "below 0", x.owes(), 1);
    x = Dues.with(NEVER, 4, EACH, 5);
    x.change(1, 2, 1);
    x.days(1);
    Dues.due(27, "24 is more than 20", x.owes(), 1);
    x.room(0, 1);
    Dues.due(27, "by the price of now: 4 and 4", x.owes(), 0);
    x.days(4);
    Dues.due(27, "nobody in a new week", x.owes(), 0);
  }

  /** One who forgets: weeks of 15, 20, 25 and 15 by the first twenty draws. */
  private static void odds() {
    int[] wants = {4, 4, 2, 1, 0};
    int[] sums = {0, 15, 20, 25, 26};
    for (int i = 0; i < sums.length; i++) {
      TrustTin x = Dues.with(FORGETS, 1);
      Dues.due(28, "odds(4, " + sums[i] + ")", x.odds(4, sums[i]), wants[i]);
      Dues.due(28, "z goes on", x.count(6), Dues.after(1, 20));
      Dues.due(28, "day stays", x.now(0), 0);
      Dues.due(28, "tin stays", x.now(1), 0);
    }
    TrustTin x = Dues.with(EACH, 8);
    Dues.due(28, "each from the same purse", x.odds(20, 200), 20);
    x = Dues.with(LATER, 1);
    x.days(3);
    Dues.due(28, "from this day on", x.odds(1, 25), 1);
    Dues.due(28, "and no more", x.odds(1, 26), 0);
    Dues.due(28, "n 0", x.odds(0, 0), Dues.BEYOND);
    Dues.due(28, "n 21", x.odds(21, 0), Dues.BEYOND);
    Dues.due(28, "v -1", x.odds(1, -1), Dues.BEYOND);
    Dues.due(28, "v 10000", x.odds(1, 10000), Dues.BEYOND);
    Dues.due(28, "v 9999", x.odds(1, 9999), 0);
  }

  private static void seed() {
    TrustTin x = new TrustTin();
    Dues.due(29, "at first", x.seed(-1000001), 1);
    Dues.due(29, "what it was", x.seed(Integer.MIN_VALUE), -1000001);
    Dues.due(29, "any int", x.seed(0), Integer.MIN_VALUE);
    Dues.due(29, "no finding", x.status(-1), 0);
  }

  /** One, two and three cups, paid each, twice and never: 5, 20 and 0 coins of 30 that are due. */
  private static void unevenOfSeveral() {
    TrustTin x = Dues.with(EACH, 1, TWICE, 2, NEVER, 3, LATER, 9);
    x.change(3, 3, 0);
    x.days(1);
    Dues.due(24, "1000 less 0", x.uneven(0), 1000);
    Dues.due(24, "500 less 500", x.uneven(1), 0);
    // 10 each: 1000, 500 and 333 by cups.
    Dues.due(24, "1000 less 333", x.uneven(2), 667);
    x.change(3, 3, 20);
    x.change(3, 1, 1);
    x.room(0, 3);
    x.days(1);
    // 8, 32, 0 and 0 coins; 2, 4, 6 and 1 cups at 3 are 39: 9 each.
    Dues.due(24, "800 less 0", x.uneven(0), 800);
    Dues.due(24, "a levy by the price of now", x.uneven(2), 900 - 150);
    Dues.due(24, "way 3 then", x.uneven(3), Dues.BEYOND);
    x.room(0, 0);
    Dues.due(24, "strokes for nothing", x.uneven(1), 0);
    Dues.due(24, "a levy of nothing", x.uneven(2), 0);
    x.days(3);
    Dues.due(24, "nobody has drunk in a new week", x.uneven(2), Dues.NONE);
  }

  private static void unevenOfTen() {
    TrustTin x = Dues.with(EACH, 1, EACH, 1, EACH, 1, EACH, 1, EACH, 1, EACH, 1, EACH, 1, EACH, 1, EACH, 1, TWICE, 2);
    x.days(1);
    Dues.due(24, "1000 less 500", x.uneven(0), 500);
    Dues.due(24, "strokes", x.uneven(1), 0);
    // 55 by ten is 5: 500 for one cup, 250 for each of two.
    Dues.due(24, "500 less 250", x.uneven(2), 250);
    Dues.due(27, "the least of nine", x.owes(), 0);
    x = Dues.with(EACH, 1);
    x.days(1);
    x.image();
    x.drinker(TWICE, 3);
    x.days(1);
    Dues.due(24, "two", x.uneven(0), 500);
    x.undo();
    Dues.due(24, "one whose coming is undone doesn't count", x.uneven(0), 0);
    Dues.due(24, "nor in a levy", x.uneven(2), 0);
    Dues.due(26, "nor in what is lacking", x.lacks(), 0);
    Dues.due(25, "nor for strokes", x.strokes(), 1);
  }

  private static void strokesByRests() {
    for (int rest = 0; rest < 10; rest++) {
      TrustTin x = Dues.with(EACH, 1);
      x.days(1);
      int z = Dues.seedWith(rest);
      x.seed(z);
      Dues.due(25, "a cup by " + rest, x.strokes(), rest == 0 ? 0 : rest == 1 ? 2 : 1);
      Dues.due(25, "a draw", x.count(6), Dues.after(z, 1));
      Dues.due(25, "drunk stays", x.now(8), 1);
    }
    TrustTin x = Dues.with(EACH, 1);
    x.days(5);
    Dues.due(25, "a new week", x.strokes(), 0);
    Dues.due(25, "no draw", x.count(6), 1);
  }

  private static void oddsEdges() {
    TrustTin x = Dues.with(EACH, 9, EACH, 9, EACH, 9, EACH, 9, EACH, 9, EACH, 9, EACH, 9, EACH, 9, EACH, 9, EACH, 9);
    x.room(1, 99);
    x.room(0, 40);
    for (int d = 0; d < 10; d++) {
      x.change(d, 3, 40);
      x.change(d, 2, d < 9 ? 1000 : 998);
    }
    Dues.due(28, "9998, of 9998", x.odds(20, 9998), 20);
    Dues.due(28, "9999, of 9998", x.odds(20, 9999), 0);
    x.change(9, 2, 999);
    Dues.due(28, "9999, of 9999", x.odds(20, 9999), 20);
    x.change(9, 2, 1000);
    Dues.due(28, "9999, of 10000", x.odds(1, 9999), 1);
    Dues.due(28, "no draws, z stays", x.count(6), 1);
    x = new TrustTin();
    Dues.due(28, "0 of nobody", x.odds(20, 0), 20);
    Dues.due(28, "1 of nobody", x.odds(20, 1), 0);
  }
}
