/** Promises 10 to 12, with what the document's terms say of cups, days and Fridays. */
public final class DaysTest {
  private static final int EACH = 0;
  private static final int LATER = 1;
  private static final int FORGETS = 2;
  private static final int NEVER = 3;
  private static final int IF = 4;
  private static final int TWICE = 5;
  private static final int MAKER = 6;

  public static void main(String[] args) {
    pays();
    shortPurses();
    prices();
    draws();
    forgets();
    never();
    neverOfTheFirstCup();
    paysIfOthersDo();
    limits();
    pots();
    potEdges();
    fridays();
    debts();
    lasts();
    lastEdges();
    edges();
    books();
    each();
    eachOfTwentyWeeks();
    Dues.end();
  }

  private static void pays() {
    TrustTin x = Dues.with(EACH, 2);
    Dues.due(10, "each", x.days(1), 10);
    Dues.due(10, "each: two days more", x.days(2), 20);
    Dues.due(10, "purse", x.of(0, 2), 170);
    x.change(0, 2, 7);
    Dues.due(10, "as far as the purse goes", x.days(1), 7);
    Dues.due(10, "cups without a coin", x.of(0, 5), 8);
    Dues.due(10, "no draws", x.count(6), 1);
    x = Dues.with(TWICE, 2);
    Dues.due(10, "twice", x.days(1), 20);
    x.change(0, 2, 13);
    Dues.due(10, "twice as far as the purse goes", x.days(1), 13);
    x = Dues.with(LATER, 3, MAKER, 3);
    Dues.due(10, "later, maker", x.days(1), 0);
    Dues.due(10, "later's debt", x.of(0, 4), 15);
    Dues.due(10, "maker's debt", x.of(1, 4), 6);
  }

  /** By a price of 5; those who draw have a rest of 9. */
  private static void shortPurses() {
    int[][] rows = {
      {EACH, 0, 0}, {EACH, 4, 4}, {EACH, 5, 5}, {EACH, 6, 5}, {TWICE, 0, 0}, {TWICE, 4, 4}, {TWICE, 9, 9},
      {TWICE, 10, 10}, {TWICE, 11, 10}, {FORGETS, 0, 0}, {FORGETS, 4, 4}, {FORGETS, 6, 5}, {IF, 0, 0}, {IF, 4, 4},
      {IF, 6, 5}, {NEVER, 0, 0}, {NEVER, 4, 4}, {NEVER, 6, 5}, {LATER, 0, 0}, {MAKER, 0, 0}
    };
    for (int[] row : rows) {
      TrustTin x = Dues.with(row[0], 1);
      x.change(0, 2, row[1]);
      x.room(2, row[0] == NEVER ? 2 : 0);
      int z = Dues.seedWith(9);
      x.seed(z);
      String what = "kind " + row[0] + ", a purse of " + row[1];
      Dues.due(10, what, x.days(1), row[2]);
      Dues.due(10, what + ": left in it", x.of(0, 2), row[1] - row[2]);
      Dues.due(10, what + ": paid", x.of(0, 6), row[2]);
      Dues.due(10, what + ": tin", x.now(1), row[2]);
      Dues.due(10, what + ": drunk", x.of(0, 5), 1);
      int debt = row[0] == LATER ? 5 : row[0] == MAKER ? 2 : 0;
      Dues.due(10, what + ": debt", x.of(0, 4), debt);
      boolean isDrawn = row[0] == FORGETS || row[0] == IF;
      Dues.due(10, what + ": z", x.count(6), isDrawn ? Dues.after(z, 1) : z);
    }
  }

  private static void prices() {
    int[] prices = {0, 1, 2, 3, 99};
    int[] halves = {0, 0, 1, 1, 49};
    for (int i = 0; i < prices.length; i++) {
      TrustTin x = Dues.with(EACH, 1, LATER, 1, TWICE, 1, MAKER, 1);
      for (int d = 0; d < 4; d++) {
        x.change(d, 3, 99);
      }
      x.room(0, prices[i]);
      Dues.due(10, "a price of " + prices[i], x.days(1), 3 * prices[i]);
      Dues.due(10, "later, a price of " + prices[i], x.of(1, 4), prices[i]);
      Dues.due(10, "maker, a price of " + prices[i], x.of(3, 4), halves[i]);
      Dues.due(9, "due, a price of " + prices[i], x.now(4), 4 * prices[i]);
    }
    TrustTin x = Dues.with(FORGETS, 2);
    x.room(0, 0);
    x.days(1);
    Dues.due(10, "forgets draws for a price of 0, too", x.count(6), Dues.after(1, 2));
  }

  /** z goes round as an int, and its 24 highest bits are told without a sign. */
  private static void draws() {
    int[] far = {Integer.MIN_VALUE, Integer.MAX_VALUE, -1000001, 1 << 30};
    int afterBelow = 0;
    for (int i = 0; i < 44; i++) {
      int z = i < 40 ? i - 20 : far[i - 40];
      long next = z * 1103515245L + 12345L & 0xffffffffL;
      boolean forgets = next / 256 % 10 < 4;
      TrustTin x = Dues.with(FORGETS, 1);
      x.seed(z);
      Dues.due(10, "forgets, z " + z, x.days(1), forgets ? 0 : 5);
      Dues.due(10, "z behind " + z, x.count(6), next < 1L << 31 ? next : next - (1L << 32));
      afterBelow += next >= 1L << 31 && !forgets ? 1 : 0;
    }
    Dues.due(10, "z below 0, and no rest below 4", afterBelow > 3 ? 1 : 0, 1);
  }

  private static void forgets() {
    for (int sign = 0; sign < 3; sign++) {
      for (int rest = 0; rest < 10; rest++) {
        TrustTin x = Dues.with(FORGETS, 1);
        x.room(2, sign);
        int z = Dues.seedWith(rest);
        x.seed(z);
        int want = rest < 4 - 2 * sign ? 0 : 5;
        Dues.due(10, "forgets, sign " + sign + ", rest " + rest, x.days(1), want);
        Dues.due(10, "a draw", x.count(6), Dues.after(z, 1));
      }
    }
    // The rests of the draws from 1 on are 4, 2, 6.
    Dues.due(10, "a draw for each cup", Dues.with(FORGETS, 3).days(1), 10);
  }

  private static void never() {
    int[] wants = {0, 0, 10};
    for (int sign = 0; sign < 3; sign++) {
      TrustTin x = Dues.with(EACH, 1, NEVER, 3);
      x.room(2, sign);
      Dues.due(10, "never, sign " + sign, x.days(2), 10 + wants[sign]);
      Dues.due(10, "never, sign " + sign, x.of(1, 6), wants[sign]);
      Dues.due(10, "never draws", x.count(6), 1);
    }
  }

  /** CUP is each drinker's own. */
  private static void neverOfTheFirstCup() {
    TrustTin x = Dues.with(NEVER, 2, NEVER, 3);
    x.room(2, 2);
    Dues.due(10, "each of two", x.days(1), 10);
    Dues.due(10, "each of two anew on the next day", x.days(1), 10);
    x = Dues.with(EACH, 1, NEVER, 2);
    x.room(2, 2);
    x.room(1, 1);
    x.seed(Dues.after(1, 1));
    // 2, 6: a pot for the first cup, none for the second one.
    Dues.due(10, "the first cup of a pot made anew", x.days(1), 10);
    Dues.due(10, "one cup", x.of(1, 5), 1);
    x = Dues.with(EACH, 1, NEVER, 2);
    x.room(2, 2);
    x.room(1, 1);
    Dues.due(10, "no first cup", x.days(1), 5);
    Dues.due(10, "no cup", x.of(1, 5), 0);
    // The next rests are 2, 6.
    Dues.due(10, "the first cup of the next day", x.days(1), 10);
  }

  private static void paysIfOthersDo() {
    Dues.due(10, "if as forgets", Dues.with(IF, 3).days(1), 10);
    TrustTin x = Dues.with(EACH, 1, NEVER, 1);
    x.days(5);
    Dues.due(10, "last", x.now(3), 50);
    x.drinker(IF, 3);
    x.days(1);
    Dues.due(10, "if with 50", x.of(2, 6), 10);
    x = Dues.with(EACH, 4, NEVER, 5);
    x.change(0, 2, 110);
    x.days(5);
    Dues.due(10, "last", x.now(3), 44);
    x.drinker(IF, 3);
    x.days(1);
    Dues.due(10, "if with 44", x.of(2, 6), 0);
    Dues.due(10, "if drinks", x.of(2, 5), 3);
    Dues.due(10, "no draw", x.count(6), 1);
    x = lastOf49();
    x.drinker(IF, 1);
    x.seed(Dues.seedWith(9));
    x.days(1);
    Dues.due(10, "if with 49", x.of(2, 6), 0);
  }

  private static TrustTin lastOf49() {
    TrustTin x = Dues.with(EACH, 1, NEVER, 1);
    x.room(0, 20);
    x.change(0, 2, 99);
    x.days(5);
    Dues.due(10, "last", x.now(3), 49);
    return x;
  }

  private static void limits() {
    TrustTin x = Dues.with(EACH, 1, EACH, 1);
    x.change(0, 3, 4);
    x.change(1, 3, 5);
    Dues.due(10, "whose limit is below the price", x.days(1), 5);
    Dues.due(10, "doesn't drink", x.of(0, 5), 0);
    Dues.due(10, "drinks", x.of(1, 5), 1);
    Dues.due(10, "isn't missed", x.now(5), 0);
    int[][] rows = {{0, 0, 1}, {1, 0, 0}, {1, 1, 1}, {20, 20, 1}, {21, 20, 0}, {99, 98, 0}, {99, 99, 1}};
    for (int[] row : rows) {
      x = Dues.with(LATER, 1);
      x.room(0, row[0]);
      x.change(0, 3, row[1]);
      x.days(1);
      Dues.due(10, "a price of " + row[0] + ", a limit of " + row[1], x.of(0, 5), row[2]);
    }
    x = Dues.with(EACH, 1, EACH, 1);
    x.change(1, 3, 4);
    x.room(1, 1);
    x.days(1);
    Dues.due(10, "whose limit is below asks for no pot", x.count(6), 1);
    Dues.due(10, "and isn't missed", x.now(5), 0);
  }

  private static void pots() {
    for (int rest = 0; rest < 10; rest++) {
      TrustTin x = Dues.with(EACH, 3);
      x.room(1, 2);
      x.seed(Dues.seedWith(rest));
      x.days(1);
      boolean isMade = rest < 3;
      Dues.due(10, "drunk, rest " + rest, x.of(0, 5), isMade ? 3 : 2);
      Dues.due(10, "missed, rest " + rest, x.now(5), isMade ? 0 : 1);
      Dues.due(10, "left behind all", x.now(2), 2);
    }
    TrustTin x = Dues.with(EACH, 9, EACH, 1);
    x.room(1, 2);
    // The rests are 4, 2: the first one has no more, the next one makes a pot.
    x.days(1);
    Dues.due(10, "the first one", x.of(0, 5), 2);
    Dues.due(10, "the next one", x.of(1, 5), 1);
    Dues.due(10, "missed once for seven cups", x.now(5), 1);
    Dues.due(10, "two draws", x.count(6), Dues.after(1, 2));
    x = Dues.with(MAKER, 3, LATER, 1);
    x.room(1, 1);
    x.days(1);
    Dues.due(10, "a maker makes it", x.of(0, 5), 3);
    Dues.due(10, "later is no maker", x.of(1, 5), 0);
    Dues.due(10, "one draw", x.count(6), Dues.after(1, 1));
    x = Dues.with(FORGETS, 2);
    x.room(1, 1);
    // 4: paid; the pot is empty, then; 2: made anew; 6: paid.
    Dues.due(10, "draws for pots and cups in turn", x.days(1), 10);
    Dues.due(10, "three draws", x.count(6), Dues.after(1, 3));
  }

  private static void potEdges() {
    TrustTin x = Dues.with(EACH, 3);
    x.room(1, 3);
    Dues.due(10, "a pot that is just enough", x.days(2), 30);
    Dues.due(10, "nobody is missed", x.now(5), 0);
    Dues.due(10, "no draw", x.count(6), 1);
    Dues.due(10, "left is the pot's anew", x.now(2), 3);
    x = Dues.with(EACH, 3, EACH, 1);
    x.room(1, 3);
    // 4, 2, 6: only on the second day it is made for the second one.
    x.days(3);
    Dues.due(10, "the second one", x.of(1, 5), 1);
    Dues.due(10, "missed on two days", x.now(5), 2);
    x.drinker(EACH, 1);
    // 3, 7: nobody makes it for either.
    x.days(1);
    Dues.due(10, "missed, two on one day", x.now(5), 4);
    Dues.due(10, "a draw for each", x.count(6), Dues.after(1, 5));
    x = Dues.with(EACH, 1, MAKER, 1, EACH, 1);
    x.room(1, 1);
    x.days(1);
    Dues.due(10, "the maker has its own cup", x.of(1, 5), 1);
    Dues.due(10, "nothing is left for the next one", x.of(2, 5), 0);
    x = Dues.with(EACH, 9, EACH, 9, EACH, 9, EACH, 9, EACH, 9, EACH, 9, EACH, 9, EACH, 9, EACH, 9, EACH, 9);
    x.room(1, 99);
    x.days(1);
    Dues.due(10, "90 cups of the greatest pot", x.now(8), 90);
    Dues.due(10, "no draw", x.count(6), 1);
  }

  private static void fridays() {
    TrustTin x = Dues.with(LATER, 3, MAKER, 1);
    Dues.due(10, "four days", x.days(4), 0);
    Dues.due(10, "debts", x.now(6), 68);
    Dues.due(10, "Friday", x.days(1), 85);
    Dues.due(10, "no debt", x.now(6), 0);
    Dues.due(10, "purse", x.of(0, 2), 125);
    Dues.due(10, "drunk", x.now(8), 0);
    Dues.due(10, "paid", x.now(9), 0);
    Dues.due(10, "day", x.now(0), 5);
    Dues.due(10, "last", x.now(3), 85);
    x = Dues.with(LATER, 3);
    x.change(0, 2, 50);
    Dues.due(10, "as far as the purse goes", x.days(5), 50);
    Dues.due(10, "what is left", x.of(0, 4), 25);
    Dues.due(10, "last", x.now(3), 66);
    x.change(0, 2, 9999);
    x.change(0, 0, EACH);
    Dues.due(10, "one of another kind pays no debt", x.days(5), 75);
    Dues.due(10, "debt stays", x.of(0, 4), 25);
    x.change(0, 0, LATER);
    x.change(0, 3, 0);
    Dues.due(10, "one who doesn't drink pays it", x.days(5), 25);
  }

  private static void debts() {
    for (int kind = 0; kind < 7; kind++) {
      for (int purse = 9; purse < 12; purse++) {
        TrustTin x = Dues.with(LATER, 2);
        x.days(1);
        x.change(0, 0, kind);
        x.change(0, 3, 0);
        x.change(0, 2, purse);
        boolean pays = kind == LATER || kind == MAKER;
        int want = pays ? Math.min(purse, 10) : 0;
        String what = "kind " + kind + ", a debt of 10, a purse of " + purse;
        Dues.due(10, what + ", ahead of Friday", x.days(3), 0);
        Dues.due(10, what, x.days(1), want);
        Dues.due(10, what + ": debt", x.of(0, 4), 10 - want);
        Dues.due(10, what + ": purse", x.of(0, 2), purse - want);
        Dues.due(10, what + ": paid", x.of(0, 6), 0);
        Dues.due(10, what + ": drunk", x.of(0, 5), 0);
        Dues.due(11, what + ": the week's", x.week(0, 1), want);
      }
    }
  }

  private static void lastEdges() {
    int[] purses = {998, 999, 1000, 9999};
    int[] lasts = {998, 999, 999, 999};
    for (int i = 0; i < purses.length; i++) {
      TrustTin x = Dues.with(LATER, 1);
      x.room(0, 20);
      x.change(0, 2, 0);
      x.days(50);
      x.change(0, 2, purses[i]);
      Dues.due(10, "a debt of 1100", x.days(5), Math.min(purses[i], 1100));
      Dues.due(10, "last", x.now(3), lasts[i]);
    }
    TrustTin x = Dues.with(LATER, 1);
    x.change(0, 2, 0);
    x.days(5);
    Dues.due(10, "last of nothing", x.now(3), 0);
    x.change(0, 2, 200);
    x.change(0, 3, 0);
    Dues.due(10, "a debt comes, nobody drinks", x.days(5), 25);
    Dues.due(10, "last if nothing ought to come", x.now(3), 100);
    Dues.due(11, "no cups", x.week(0, 0), 0);
    Dues.due(11, "coins", x.week(0, 1), 25);
    x = Dues.with(NEVER, 1);
    x.days(4);
    Dues.due(10, "last ahead of Friday", x.now(3), 100);
    x.days(1);
    Dues.due(10, "last behind it", x.now(3), 0);
    x.days(4);
    x.change(0, 0, EACH);
    x.days(1);
    Dues.due(10, "last of the second Friday", x.now(3), 20);
    Dues.due(10, "two weeks", x.count(1), 2);
  }

  private static void lasts() {
    TrustTin x = Dues.with(TWICE, 1);
    x.days(5);
    Dues.due(10, "last", x.now(3), 200);
    x.room(0, 0);
    x.days(5);
    Dues.due(10, "last with no price", x.now(3), 100);
    x = Dues.with(LATER, 9);
    x.change(0, 2, 0);
    x.days(50);
    Dues.due(10, "debt of ten weeks", x.of(0, 4), 2250);
    Dues.due(10, "last", x.now(3), 0);
    x.change(0, 2, 9999);
    Dues.due(10, "all of it", x.days(5), 2475);
    Dues.due(10, "999 at most", x.now(3), 999);
    x = new TrustTin();
    x.room(0, 1);
    x.days(4);
    x.drinker(NEVER, 1);
    x.days(1);
    Dues.due(10, "last of a single coin that ought to come", x.now(3), 0);
    x = Dues.with(EACH, 2);
    x.days(4);
    x.room(0, 10);
    x.days(1);
    Dues.due(10, "last by Friday's price", x.now(3), 60);
  }

  private static void edges() {
    TrustTin x = Dues.with(EACH, 1);
    Dues.due(10, "0", x.days(0), Dues.BEYOND);
    Dues.due(10, "-1", x.days(-1), Dues.BEYOND);
    Dues.due(10, "51", x.days(51), Dues.BEYOND);
    Dues.due(10, "50", x.days(50), 200);
    Dues.due(10, "day", x.now(0), 50);
    Dues.go(x, 9900);
    Dues.due(10, "to 10000", x.days(50), Dues.STATE);
    Dues.due(10, "nothing changed", x.now(0), 9950);
    Dues.due(10, "to 9999", x.days(49), 0);
    Dues.due(10, "day", x.now(0), 9999);
    Dues.due(10, "one more", x.days(1), Dues.STATE);
    Dues.due(10, "51 then", x.days(51), Dues.BEYOND);
  }

  private static void books() {
    TrustTin x = new TrustTin();
    x.days(4);
    Dues.due(11, "no week yet", x.week(0, 0), Dues.NONE);
    x.days(1);
    Dues.due(11, "an empty week", x.week(0, 0), 0);
    x.drinker(TWICE, 1);
    x.days(5);
    Dues.due(11, "cups", x.week(0, 0), 5);
    Dues.due(11, "coins", x.week(0, 1), 50);
    Dues.due(11, "the week ahead of it", x.week(1, 0), 0);
    Dues.due(11, "not so many", x.week(2, 0), Dues.NONE);
    Dues.go(x, 90);
    Dues.due(11, "20 weeks", x.count(1), 20);
    Dues.due(11, "the first one", x.week(19, 0), 0);
    Dues.due(11, "the second one", x.week(18, 1), 50);
    x.change(0, 1, 2);
    x.days(5);
    Dues.due(11, "20 weeks at most", x.count(1), 20);
    Dues.due(11, "the latest", x.week(0, 0), 10);
    Dues.due(11, "the second one", x.week(19, 1), 50);
    x.days(5);
    Dues.due(11, "the third one", x.week(19, 0), 5);
    Dues.due(11, "the third one", x.week(19, 1), 50);
    Dues.due(11, "no 21st", x.week(20, 0), Dues.NONE);
    Dues.due(11, "none so far back", x.week(Integer.MAX_VALUE, 0), Dues.NONE);
    Dues.due(11, "i -1", x.week(-1, 0), Dues.BEYOND);
    Dues.due(11, "what -1", x.week(0, -1), Dues.BEYOND);
    Dues.due(11, "what 2", x.week(0, 2), Dues.BEYOND);
    Dues.due(11, "what 2 of none", x.week(30, 2), Dues.BEYOND);
  }

  private static void each() {
    TrustTin x = Dues.with(EACH, 2, NEVER, 1);
    Dues.due(12, "no books", x.each(0), Dues.NONE);
    x.days(5);
    Dues.due(12, "above", x.each(0), 10);
    Dues.due(12, "below", x.each(1), 3);
    x.change(0, 0, NEVER);
    x.days(5);
    Dues.due(12, "above, of two weeks", x.each(0), 5);
    Dues.due(12, "below, of two weeks", x.each(1), 3);
    Dues.due(12, "part -1", x.each(-1), Dues.BEYOND);
    Dues.due(12, "part 2", x.each(2), Dues.BEYOND);
    x = Dues.with(EACH, 1);
    x.change(0, 2, 1);
    x.days(5);
    Dues.due(12, "one by five: above", x.each(0), 1);
    Dues.due(12, "one by five: below", x.each(1), 5);
    x = Dues.with(NEVER, 2);
    x.days(5);
    Dues.due(12, "nothing: above", x.each(0), 0);
    Dues.due(12, "nothing: below", x.each(1), 1);
    x = new TrustTin();
    x.days(5);
    Dues.due(12, "no cups", x.each(0), Dues.NONE);
    Dues.due(12, "no cups, part 2", x.each(2), Dues.BEYOND);
  }

  private static void eachOfTwentyWeeks() {
    TrustTin x = Dues.with(EACH, 1);
    x.days(5);
    x.change(0, 0, NEVER);
    Dues.go(x, 95);
    Dues.due(12, "above, of 20 weeks", x.each(0), 1);
    Dues.due(12, "below, of 20 weeks", x.each(1), 4);
    x.days(5);
    Dues.due(12, "above, without the first one", x.each(0), 0);
    Dues.due(12, "below, without the first one", x.each(1), 1);
  }
}
