/** Promises 10 to 12, with what the document's terms say of cups, days and Fridays. */
public final class DaysTest {
  private static final int EACH = 0;
  private static final int LATER = 1;
  private static final int FORGETS = 2;
  private static final int NEVER = 3;
  private static final int IF = 4;
  private static final int TWICE = 5;
  private static final int MAKER = 6;

  public static void main(String[] args) {
    pays();
    forgets();
    never();
    paysIfOthersDo();
    limits();
    pots();
    fridays();
    lasts();
    edges();
    books();
    each();
    Dues.end();
  }

  private static void pays() {
    TrustTin x = Dues.with(EACH, 2);
    Dues.due(10, "each", x.days(1), 10);
    Dues.due(10, "each: two days more", x.days(2), 20);
    Dues.due(10, "purse", x.of(0, 2), 170);
    x.change(0, 2, 7);
    Dues.due(10, "as far as the purse goes", x.days(1), 7);
    Dues.due(10, "cups without a coin", x.of(0, 5), 8);
    Dues.due(10, "no draws", x.count(6), 1);
    x = Dues.with(TWICE, 2);
    Dues.due(10, "twice", x.days(1), 20);
    x.change(0, 2, 13);
    Dues.due(10, "twice as far as the purse goes", x.days(1), 13);
    x = Dues.with(LATER, 3, MAKER, 3);
    Dues.due(10, "later, maker", x.days(1), 0);
    Dues.due(10, "later's debt", x.of(0, 4), 15);
    Dues.due(10, "maker's debt", x.of(1, 4), 6);
  }

  private static void forgets() {
    for (int sign = 0; sign < 3; sign++) {
      for (int rest = 0; rest < 10; rest++) {
        TrustTin x = Dues.with(FORGETS, 1);
        x.room(2, sign);
        int z = Dues.seedWith(rest);
        x.seed(z);
        int want = rest < 4 - 2 * sign ? 0 : 5;
        Dues.due(10, "forgets, sign " + sign + ", rest " + rest, x.days(1), want);
        Dues.due(10, "a draw", x.count(6), Dues.after(z, 1));
      }
    }
    // The rests of the draws from 1 on are 4, 2, 6.
    Dues.due(10, "a draw for each cup", Dues.with(FORGETS, 3).days(1), 10);
  }

  private static void never() {
    int[] wants = {0, 0, 10};
    for (int sign = 0; sign < 3; sign++) {
      TrustTin x = Dues.with(EACH, 1, NEVER, 3);
      x.room(2, sign);
      Dues.due(10, "never, sign " + sign, x.days(2), 10 + wants[sign]);
      Dues.due(10, "never, sign " + sign, x.of(1, 6), wants[sign]);
      Dues.due(10, "never draws", x.count(6), 1);
    }
  }

  private static void paysIfOthersDo() {
    Dues.due(10, "if as forgets", Dues.with(IF, 3).days(1), 10);
    TrustTin x = Dues.with(EACH, 1, NEVER, 1);
    x.days(5);
    Dues.due(10, "last", x.now(3), 50);
    x.drinker(IF, 3);
    x.days(1);
    Dues.due(10, "if with 50", x.of(2, 6), 10);
    x = Dues.with(EACH, 4, NEVER, 5);
    x.change(0, 2, 110);
    x.days(5);
    Dues.due(10, "last", x.now(3), 44);
    x.drinker(IF, 3);
    x.days(1);
    Dues.due(10, "if with 44", x.of(2, 6), 0);
    Dues.due(10, "if drinks", x.of(2, 5), 3);
    Dues.due(10, "no draw", x.count(6), 1);
    x = lastOf49();
    x.drinker(IF, 1);
    x.seed(Dues.seedWith(9));
    x.days(1);
    Dues.due(10, "if with 49", x.of(2, 6), 0);
  }

  private static TrustTin lastOf49() {
    TrustTin x = Dues.with(EACH, 1, NEVER, 1);
    x.room(0, 20);
    x.change(0, 2, 99);
    x.days(5);
    Dues.due(10, "last", x.now(3), 49);
    return x;
  }

  private static void limits() {
    TrustTin x = Dues.with(EACH, 1, EACH, 1);
    x.change(0, 3, 4);
    x.change(1, 3, 5);
    Dues.due(10, "whose limit is below the price", x.days(1), 5);
    Dues.due(10, "doesn't drink", x.of(0, 5), 0);
    Dues.due(10, "drinks", x.of(1, 5), 1);
    Dues.due(10, "isn't missed", x.now(5), 0);
  }

  private static void pots() {
    for (int rest = 0; rest < 10; rest++) {
      TrustTin x = Dues.with(EACH, 3);
      x.room(1, 2);
      x.seed(Dues.seedWith(rest));
      x.days(1);
      boolean isMade = rest < 3;
      Dues.due(10, "drunk, rest " + rest, x.of(0, 5), isMade ? 3 : 2);
      Dues.due(10, "missed, rest " + rest, x.now(5), isMade ? 0 : 1);
      Dues.due(10, "left behind all", x.now(2), 2);
    }
    TrustTin x = Dues.with(EACH, 9, EACH, 1);
    x.room(1, 2);
    // The rests are 4, 2: the first one has no more, the next one makes a pot.
    x.days(1);
    Dues.due(10, "the first one", x.of(0, 5), 2);
    Dues.due(10, "the next one", x.of(1, 5), 1);
    Dues.due(10, "missed once for seven cups", x.now(5), 1);
    Dues.due(10, "two draws", x.count(6), Dues.after(1, 2));
    x = Dues.with(MAKER, 3, LATER, 1);
    x.room(1, 1);
    x.days(1);
    Dues.due(10, "a maker makes it", x.of(0, 5), 3);
    Dues.due(10, "later is no maker", x.of(1, 5), 0);
    Dues.due(10, "one draw", x.count(6), Dues.after(1, 1));
    x = Dues.with(FORGETS, 2);
    x.room(1, 1);
    // 4: paid; the pot is empty, then; 2: made anew; 6: paid.
    Dues.due(10, "draws for pots and cups in turn", x.days(1), 10);
    Dues.due(10, "three draws", x.count(6), Dues.after(1, 3));
  }

  private static void fridays() {
    TrustTin x = Dues.with(LATER, 3, MAKER, 1);
    Dues.due(10, "four days", x.days(4), 0);
    Dues.due(10, "debts", x.now(6), 68);
    Dues.due(10, "Friday", x.days(1), 85);
    Dues.due(10, "no debt", x.now(6), 0);
    Dues.due(10, "purse", x.of(0, 2), 125);
    Dues.due(10, "drunk", x.now(8), 0);
    Dues.due(10, "paid", x.now(9), 0);
    Dues.due(10, "day", x.now(0), 5);
    Dues.due(10, "last", x.now(3), 85);
    x = Dues.with(LATER, 3);
    x.change(0, 2, 50);
    Dues.due(10, "as far as the purse goes", x.days(5), 50);
    Dues.due(10, "what is left", x.of(0, 4), 25);
    Dues.due(10, "last", x.now(3), 66);
    x.change(0, 2, 9999);
    x.change(0, 0, EACH);
    Dues.due(10, "one of another kind pays no debt", x.days(5), 75);
    Dues.due(10, "debt stays", x.of(0, 4), 25);
    x.change(0, 0, LATER);
    x.change(0, 3, 0);
    Dues.due(10, "one who doesn't drink pays it", x.days(5), 25);
  }

  private static void lasts() {
    TrustTin x = Dues.with(TWICE, 1);
    x.days(5);
    Dues.due(10, "last", x.now(3), 200);
    x.room(0, 0);
    x.days(5);
    Dues.due(10, "last with no price", x.now(3), 100);
    x = Dues.with(LATER, 9);
    x.change(0, 2, 0);
    x.days(50);
    Dues.due(10, "debt of ten weeks", x.of(0, 4), 2250);
    Dues.due(10, "last", x.now(3), 0);
    x.change(0, 2, 9999);
    Dues.due(10, "all of it", x.days(5), 2475);
    Dues.due(10, "999 at most", x.now(3), 999);
    x = new TrustTin();
    x.room(0, 1);
    x.days(4);
    x.drinker(NEVER, 1);
    x.days(1);
    Dues.due(10, "last of a single coin that ought to come", x.now(3), 0);
    x = Dues.with(EACH, 2);
    x.days(4);
    x.room(0, 10);
    x.days(1);
    Dues.due(10, "last by Friday's price", x.now(3), 60);
  }

  private static void edges() {
    TrustTin x = Dues.with(EACH, 1);
    Dues.due(10, "0", x.days(0), Dues.BEYOND);
    Dues.due(10, "-1", x.days(-1), Dues.BEYOND);
    Dues.due(10, "51", x.days(51), Dues.BEYOND);
    Dues.due(10, "50", x.days(50), 200);
    Dues.due(10, "day", x.now(0), 50);
    Dues.go(x, 9900);
    Dues.due(10, "to 10000", x.days(50), Dues.STATE);
    Dues.due(10, "nothing changed", x.now(0), 9950);
    Dues.due(10, "to 9999", x.days(49), 0);
    Dues.due(10, "day", x.now(0), 9999);
    Dues.due(10, "one more", x.days(1), Dues.STATE);
    Dues.due(10, "51 then", x.days(51), Dues.BEYOND);
  }

  private static void books() {
    TrustTin x = new TrustTin();
    x.days(4);
    Dues.due(11, "no week yet", x.week(0, 0), Dues.NONE);
    x.days(1);
    Dues.due(11, "an empty week", x.week(0, 0), 0);
    x.drinker(TWICE, 1);
    x.days(5);
    Dues.due(11, "cups", x.week(0, 0), 5);
    Dues.due(11, "coins", x.week(0, 1), 50);
    Dues.due(11, "the week ahead of it", x.week(1, 0), 0);
    Dues.due(11, "not so many", x.week(2, 0), Dues.NONE);
    Dues.go(x, 90);
    Dues.due(11, "20 weeks", x.count(1), 20);
    Dues.due(11, "the first one", x.week(19, 0), 0);
    Dues.due(11, "the second one", x.week(18, 1), 50);
    x.change(0, 1, 2);
    x.days(5);
    Dues.due(11, "20 weeks at most", x.count(1), 20);
    Dues.due(11, "the latest", x.week(0, 0), 10);
    Dues.due(11, "the second one", x.week(19, 1), 50);
    x.days(5);
    Dues.due(11, "the third one", x.week(19, 0), 5);
    Dues.due(11, "the third one", x.week(19, 1), 50);
    Dues.due(11, "no 21st", x.week(20, 0), Dues.NONE);
    Dues.due(11, "none so far back", x.week(Integer.MAX_VALUE, 0), Dues.NONE);
    Dues.due(11, "i -1", x.week(-1, 0), Dues.BEYOND);
    Dues.due(11, "what -1", x.week(0, -1), Dues.BEYOND);
    Dues.due(11, "what 2", x.week(0, 2), Dues.BEYOND);
    Dues.due(11, "what 2 of none", x.week(30, 2), Dues.BEYOND);
  }

  private static void each() {
    TrustTin x = Dues.with(EACH, 2, NEVER, 1);
    Dues.due(12, "no books", x.each(0), Dues.NONE);
    x.days(5);
    Dues.due(12, "above", x.each(0), 10);
    Dues.due(12, "below", x.each(1), 3);
    x.change(0, 0, NEVER);
    x.days(5);
    Dues.due(12, "above, of two weeks", x.each(0), 5);
    Dues.due(12, "below, of two weeks", x.each(1), 3);
    Dues.due(12, "part -1", x.each(-1), Dues.BEYOND);
    Dues.due(12, "part 2", x.each(2), Dues.BEYOND);
    x = Dues.with(EACH, 1);
    x.change(0, 2, 1);
    x.days(5);
    Dues.due(12, "one by five: above", x.each(0), 1);
    Dues.due(12, "one by five: below", x.each(1), 5);
    x = Dues.with(NEVER, 2);
    x.days(5);
    Dues.due(12, "nothing: above", x.each(0), 0);
    Dues.due(12, "nothing: below", x.each(1), 1);
    x = new TrustTin();
    x.days(5);
    Dues.due(12, "no cups", x.each(0), Dues.NONE);
    Dues.due(12, "no cups, part 2", x.each(2), Dues.BEYOND);
  }
}
