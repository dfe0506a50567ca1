/** Promises 13 to 23. */
public final class AheadTest {
  private static final int EACH = 0;
  private static final int LATER = 1;
  private static final int FORGETS = 2;
  private static final int NEVER = 3;
  private static final int IF = 4;
  private static final int TWICE = 5;
  private static final int MAKER = 6;

  public static void main(String[] args) {
    whoCan();
    greatestSum();
    ahead();
    aheadOfFriday();
    rests();
    tips();
    best();
    sign();
    potFor();
    kindFor();
    told();
    states();
    Dues.end();
  }

  private static void whoCan() {
    TrustTin x = Dues.with(EACH, 1, NEVER, 2, LATER, 3);
    Dues.due(13, "nobody has drunk", x.many(0), 7);
    x.days(1);
    int[] sums = {0, 5, 10, 15, 20, 25, 30, 35, 6};
    int[] many = {0, 1, 1, 2, 1, 1, 1, 0, 0};
    int[] all = {Dues.NONE, 1, 2, 0, 5, 6, 7, Dues.NONE, Dues.NONE};
    int[] any = {Dues.NONE, 1, 2, 7, 5, 6, 7, Dues.NONE, Dues.NONE};
    int[] fewest = {Dues.NONE, 1, 2, 4, 5, 6, 7, Dues.NONE, Dues.NONE};
    for (int i = 0; i < sums.length; i++) {
      Dues.due(13, "many(" + sums[i] + ")", x.many(sums[i]), many[i]);
      Dues.due(14, "who(" + sums[i] + ", 0)", x.who(sums[i], 0), all[i]);
      Dues.due(14, "who(" + sums[i] + ", 1)", x.who(sums[i], 1), any[i]);
      Dues.due(15, "fewest(" + sums[i] + ")", x.fewest(sums[i]), fewest[i]);
    }
    x.drinker(EACH, 1);
    Dues.due(13, "with one who hasn't drunk", x.many(15), 4);
    Dues.due(14, "with one who hasn't drunk", x.who(15, 1), 15);
    Dues.due(13, "that one alone", x.many(0), 1);
    Dues.due(14, "that one alone", x.who(0, 0), 8);
    Dues.due(14, "that one alone", x.who(0, 1), 8);
    Dues.due(15, "that one alone", x.fewest(0), 8);
    x.room(0, 0);
    Dues.due(13, "no price", x.many(0), 15);
    Dues.due(15, "the least of the fewest", x.fewest(0), 1);
    for (int sum : new int[] {-1, 10000}) {
      Dues.due(13, "many(" + sum + ")", x.many(sum), Dues.BEYOND);
      Dues.due(14, "who(" + sum + ", 0)", x.who(sum, 0), Dues.BEYOND);
      Dues.due(15, "fewest(" + sum + ")", x.fewest(sum), Dues.BEYOND);
    }
    Dues.due(14, "what -1", x.who(0, -1), Dues.BEYOND);
    Dues.due(14, "what 2", x.who(9999, 2), Dues.BEYOND);
    Dues.due(13, "9999", x.many(9999), 0);
    x = Dues.with(0, 1, 0, 1, 0, 1, 0, 1, 0, 1, 0, 1, 0, 1, 0, 1, 0, 1, 0, 1);
    x.days(1);
    Dues.due(13, "five of ten", x.many(25), 252);
    Dues.due(15, "ten", x.fewest(50), 1023);
    x.room(0, 99);
    Dues.due(13, "sums go by the price", x.many(990), 1);
  }

  /** Ten who drink 101 cups, each for 99. */
  private static void greatestSum() {
    TrustTin x = Dues.with(EACH, 9, EACH, 9, EACH, 9, EACH, 9, EACH, 9, EACH, 9, EACH, 9, EACH, 9, EACH, 9, EACH, 9);
    x.room(0, 99);
    x.room(1, 99);
    for (int d = 0; d < 10; d++) {
      x.change(d, 3, 99);
    }
    x.days(1);
    for (int d = 0; d < 10; d++) {
      x.change(d, 1, d == 4 ? 2 : 1);
    }
    x.days(1);
    Dues.due(9, "due", x.now(4), 9999);
    Dues.due(13, "9999, by all", x.many(9999), 1);
    Dues.due(14, "9999, in all", x.who(9999, 0), 1023);
    Dues.due(15, "9999, the fewest", x.fewest(9999), 1023);
    Dues.due(13, "one of nine", x.many(990), 9);
    Dues.due(14, "in all of nine", x.who(990, 0), 0);
    Dues.due(14, "in any of nine", x.who(990, 1), 1023 - 16);
    Dues.due(15, "the least of nine", x.fewest(990), 1);
    Dues.due(13, "nine of nine, and not the other one", x.many(8910), 1);
    Dues.due(14, "all but that one", x.who(8910, 0), 1023 - 16);
    Dues.due(13, "all but one of nine", x.many(9009), 9);
    Dues.due(14, "that one is in all", x.who(9009, 0), 16);
    Dues.due(15, "of many the least", x.fewest(9009), 511);
    Dues.due(13, "one less than a price", x.many(98), 0);
    Dues.due(14, "nobody's", x.who(98, 1), Dues.NONE);
    Dues.due(15, "nobody's", x.fewest(989), Dues.NONE);
    x.days(3);
    Dues.due(13, "a new week: all but the set of none", x.many(0), 1023);
    Dues.due(14, "a new week, in all", x.who(0, 0), 0);
    Dues.due(14, "a new week, in any", x.who(0, 1), 1023);
    Dues.due(15, "a new week, the least", x.fewest(0), 1);
  }

  /**
   * On each side of a Friday: one pays at once, one on Friday as far as 22 coins go, and the third one's cup
   * takes a pot made anew. The rests 4, 2 of two days leave 15 coins and a debt of 10; then come 7, 1, 3.
   */
  private static void aheadOfFriday() {
    // What ahead(n, ..) tells for n 0 to 3: TIN, DRUNK, DEBT, MISSED, what comes, LAST.
    int[][] wants = {{15, 0, 10, 0, 0, 100}, {20, 2, 15, 1, 5, 100}, {30, 5, 20, 1, 15, 100}, {57, 7, 3, 2, 42, 95}};
    for (int n = 0; n < wants.length; n++) {
      TrustTin x = Dues.with(EACH, 1, LATER, 1, EACH, 1);
      x.room(1, 2);
      x.change(1, 2, 22);
      x.days(2);
      x.seed(3);
      for (int what = 0; what < 6; what++) {
        Dues.due(16, "ahead(" + n + ", " + what + ") of a Friday", x.ahead(n, what), wants[n][what]);
      }
      if (n > 0) {
        Dues.due(16, "as the days then go", x.days(n), wants[n][4]);
        Dues.due(16, "missed then", x.now(5), 1 + wants[n][3]);
        Dues.due(16, "debt then", x.now(6), wants[n][2]);
        Dues.due(16, "last then", x.now(3), wants[n][5]);
      }
    }
  }

  private static void ahead() {
    TrustTin x = Dues.with(EACH, 2, LATER, 1, FORGETS, 1);
    x.room(1, 3);
    x.days(4);
    x.taken(10);
    int z = x.count(6);
    int tin = x.now(1);
    int debt = x.now(6);
    int[] none = {tin, 0, debt, 0, 0, 100};
    for (int what = 0; what < 6; what++) {
      Dues.due(16, "ahead(0, " + what + ")", x.ahead(0, what), none[what]);
    }
    int missed = x.now(5);
    int[] got = new int[6];
    for (int what = 0; what < 6; what++) {
      got[what] = x.ahead(4, what);
    }
    Dues.due(16, "z stays", x.count(6), z);
    Dues.due(16, "day stays", x.now(0), 4);
    Dues.due(16, "books stay", x.count(1), 0);
    Dues.due(16, "tin stays", x.now(1), tin);
    int drunkBefore = x.now(8);
    int came = x.days(4);
    Dues.due(16, "tin", got[0], x.now(1));
    Dues.due(16, "drunk", got[1], x.week(0, 0) - drunkBefore + x.now(8));
    Dues.due(16, "debt", got[2], x.now(6));
    Dues.due(16, "missed", got[3], x.now(5) - missed);
    Dues.due(16, "coins", got[4], came);
    Dues.due(16, "last", got[5], x.now(3));
    x = Dues.with(TWICE, 1);
    Dues.due(16, "100 days", x.ahead(100, 1), 100);
    Dues.due(16, "a purse of 200", x.ahead(100, 4), 200);
    Dues.due(16, "n -1", x.ahead(-1, 0), Dues.BEYOND);
    Dues.due(16, "n 101", x.ahead(101, 0), Dues.BEYOND);
    Dues.due(16, "what -1", x.ahead(1, -1), Dues.BEYOND);
    Dues.due(16, "what 6", x.ahead(1, 6), Dues.BEYOND);
  }

  /** One IF drinker: with 50 or more the draws 4, 2, 6, 3, 7 bring three of five cups' price. */
  private static void rests() {
    TrustTin x = Dues.with(IF, 1);
    Dues.due(17, "0 and 60", x.rests(), 1 | 1 << 6);
    Dues.due(17, "z stays", x.count(6), 1);
    x.days(2);
    x.seed(1);
    Dues.due(17, "from a Monday's begin", x.rests(), 1 | 1 << 6);
    Dues.due(17, "day stays", x.now(0), 2);
    Dues.due(17, "drunk stays", x.now(8), 2);
    Dues.due(17, "last stays", x.now(3), 100);
    x = Dues.with(EACH, 1);
    Dues.due(17, "100", x.rests(), 1 << 10);
    x.change(0, 2, 10);
    Dues.due(17, "purses as they are", x.rests(), 1 << 4);
    x = Dues.with(NEVER, 1);
    Dues.due(17, "0", x.rests(), 1);
    x = Dues.with(TWICE, 1);
    Dues.due(17, "none", x.rests(), 0);
    x = Dues.with(TWICE, 1, EACH, 9);
    x.change(1, 2, 999);
    Dues.due(17, "110 isn't asked", x.rests(), 0);
    Dues.due(17, "110", x.tips(110, 1), 110);
    x = Dues.with(IF, 1, NEVER, 1);
    x.seed(Dues.after(1, 10));
    // 4, 6, 8, 8, 9: all of IF's five cups are paid, so that 50 holds itself.
    Dues.due(17, "0 and 50", x.rests(), 1 | 1 << 5);
    x = Dues.with(LATER, 1, NEVER, 1);
    x.days(1);
    // A week from a Monday's begin, with the Monday's debt: six cups' price for ten.
    Dues.due(17, "debts as they are", x.rests(), 1 << 6);
  }

  private static void tips() {
    TrustTin x = Dues.with(IF, 1);
    Dues.due(18, "100, a week", x.tips(100, 1), 60);
    Dues.due(18, "50, a week", x.tips(50, 1), 60);
    Dues.due(18, "49, a week", x.tips(49, 1), 0);
    Dues.due(18, "999, a week", x.tips(999, 1), 60);
    Dues.due(18, "0, ten weeks", x.tips(0, 10), 0);
    Dues.due(18, "two weeks", x.tips(100, 2), 80);
    Dues.due(18, "three weeks", x.tips(100, 3), 100);
    x.days(3);
    x.seed(1);
    Dues.due(18, "from a Monday's begin", x.tips(100, 2), 80);
    Dues.due(18, "z stays", x.count(6), 1);
    Dues.due(18, "last stays", x.now(3), 100);
    x = Dues.with(EACH, 8);
    Dues.due(18, "a purse of a week", x.tips(100, 1), 100);
    Dues.due(18, "purses go on", x.tips(100, 2), 0);
    // A purse of n weeks at 25, but for 15 coins.
    for (int n = 1; n <= 10; n++) {
      x = Dues.with(EACH, 1);
      x.change(0, 2, 25 * n - 15);
      Dues.due(18, "the last one of " + n + " weeks", x.tips(100, n), 40);
      if (n > 1) {
        Dues.due(18, "the one ahead of the last", x.tips(100, n - 1), 100);
      }
    }
    Dues.due(18, "last -1", x.tips(-1, 1), Dues.BEYOND);
    Dues.due(18, "last 1000", x.tips(1000, 1), Dues.BEYOND);
    Dues.due(18, "n 0", x.tips(0, 0), Dues.BEYOND);
    Dues.due(18, "n 11", x.tips(0, 11), Dues.BEYOND);
  }

  private static void best() {
    TrustTin x = Dues.with(EACH, 1);
    Dues.due(19, "the limit", x.best(1), 20);
    Dues.due(19, "the limit, 10 days", x.best(10), 20);
    Dues.due(19, "the least that takes all", x.best(20), 10);
    x.drinker(EACH, 1);
    x.change(1, 3, 9);
    Dues.due(19, "20 of one is more than 9 of two", x.best(1), 20);
    x.change(1, 3, 11);
    Dues.due(19, "11 of two is more than 20 of one", x.best(1), 11);
    x = Dues.with(EACH, 1);
    x.change(0, 3, 99);
    Dues.due(19, "99", x.best(1), 99);
    Dues.due(19, "price stays", x.count(2), 5);
    x.change(0, 0, NEVER);
    Dues.due(19, "nothing comes", x.best(1), 0);
    Dues.due(19, "n 0", x.best(0), Dues.BEYOND);
    Dues.due(19, "n 21", x.best(21), Dues.BEYOND);
  }

  private static void sign() {
    Dues.due(20, "never", Dues.with(NEVER, 1).sign(1), 2);
    Dues.due(20, "each", Dues.with(EACH, 1).sign(50), 0);
    TrustTin x = Dues.with(FORGETS, 3);
    Dues.due(20, "flowers do, too", x.sign(1), 1);
    x.room(2, 2);
    Dues.due(20, "of all signs", x.sign(1), 1);
    Dues.due(20, "sign stays", x.count(4), 2);
    x.seed(Dues.seedWith(1));
    x.change(0, 1, 1);
    Dues.due(20, "eyes alone do", x.sign(1), 2);
    Dues.due(20, "n 0", x.sign(0), Dues.BEYOND);
    Dues.due(20, "n 51", x.sign(51), Dues.BEYOND);
    noSignIsBest();
  }

  /**
   * A Friday and a day more, by the rests 2, 8, 0, 7, 1, 9. With flowers or eyes the one who forgets pays on
   * Friday, LAST comes to 50 instead of 44, and the draw of IF, whose purse is empty, shifts the draw for a
   * pot: 30 coins come, and without a sign 45.
   */
  private static void noSignIsBest() {
    TrustTin x = Dues.with(FORGETS, 1, IF, 1, EACH, 4);
    x.room(1, 3);
    x.change(0, 2, 0);
    x.change(1, 2, 0);
    x.change(2, 2, 9999);
    x.days(4);
    x.change(0, 2, 5);
    x.seed(29);
    int[] came = {45, 30, 30};
    for (int sign = 0; sign < 3; sign++) {
      x.room(2, sign);
      Dues.due(20, "what comes with sign " + sign, x.ahead(2, 4), came[sign]);
      Dues.due(20, "none of the signs, from " + sign, x.sign(2), 0);
    }
  }

  private static void potFor() {
    TrustTin x = Dues.with(EACH, 5);
    Dues.due(21, "all cups, as nobody makes one", x.potFor(1), 5);
    Dues.due(21, "all cups, 20 days", x.potFor(20), 5);
    Dues.due(21, "pot stays", x.count(3), 12);
    x.room(1, 1);
    Dues.due(21, "left is the pot's", x.potFor(1), 5);
    // The rests are 1, 7: one pot is made anew.
    x.seed(2);
    Dues.due(21, "two pots", x.potFor(1), 3);
    x.days(1);
    Dues.due(21, "what was missed before doesn't count", x.now(5) > 0 ? 1 : 0, 1);
    x.seed(1);
    Dues.due(21, "all cups", x.potFor(1), 5);
    Dues.due(21, "a maker", Dues.with(MAKER, 9).potFor(20), 1);
    x = Dues.with(EACH, 9, EACH, 9, EACH, 9, EACH, 9, EACH, 9, EACH, 9, EACH, 9, EACH, 9, EACH, 9, EACH, 9);
    Dues.due(21, "the most that can be needed", x.potFor(1), 90);
    Dues.due(21, "nobody drinks", new TrustTin().potFor(20), 1);
    x.room(0, 21);
    Dues.due(21, "nobody drinks for so much", x.potFor(20), 1);
    Dues.due(21, "n 0", x.potFor(0), Dues.BEYOND);
    Dues.due(21, "n 21", x.potFor(21), Dues.BEYOND);
  }

  private static void kindFor() {
    TrustTin x = Dues.with(EACH, 1, EACH, 1);
    Dues.due(22, "never", x.kindFor(0, 1), NEVER);
    x.room(2, 2);
    Dues.due(22, "maker, if never pays", x.kindFor(0, 1), MAKER);
    Dues.due(22, "maker, behind a Friday", x.kindFor(1, 50), MAKER);
    Dues.due(22, "kind stays", x.of(0, 0), EACH);
    x.room(2, 0);
    x.seed(Dues.seedWith(3));
    Dues.due(22, "forgets, if it does", x.kindFor(0, 1), FORGETS);
    x.room(0, 0);
    Dues.due(22, "all the same", x.kindFor(0, 1), EACH);
    Dues.due(22, "drinker -1", x.kindFor(-1, 1), Dues.BEYOND);
    Dues.due(22, "drinker 2", x.kindFor(2, 1), Dues.BEYOND);
    Dues.due(22, "n 0", x.kindFor(0, 0), Dues.BEYOND);
    Dues.due(22, "n 51", x.kindFor(0, 51), Dues.BEYOND);
    x = Dues.with(LATER, 1);
    x.change(0, 2, 0);
    x.days(50);
    Dues.due(22, "below nothing", x.kindFor(0, 1), EACH);
    x.change(0, 2, 5);
    Dues.due(22, "below nothing, less of it", x.kindFor(0, 1), FORGETS + (paysNext(x) ? 1 : 0));
  }

  private static boolean paysNext(TrustTin x) {
    return (Dues.after(x.count(6), 1) >>> 8) % 10 >= 4;
  }

  private static void told() {
    TrustTin x = Dues.with(NEVER, 2, EACH, 1, TWICE, 1, LATER, 1);
    Dues.due(23, "never", x.told(0, 5), 50);
    Dues.due(23, "each", x.told(1, 5), 0);
    Dues.due(23, "twice", x.told(2, 1), -5);
    Dues.due(23, "later, ahead of Friday", x.told(3, 4), 20);
    Dues.due(23, "later, behind Friday", x.told(3, 5), 0);
    Dues.due(23, "kind stays", x.of(0, 0), NEVER);
    Dues.due(23, "drinker -1", x.told(-1, 1), Dues.BEYOND);
    Dues.due(23, "drinker 4", x.told(4, 1), Dues.BEYOND);
    Dues.due(23, "n 0", x.told(0, 0), Dues.BEYOND);
    Dues.due(23, "n 51", x.told(0, 51), Dues.BEYOND);
    Dues.due(23, "n 50", x.told(2, 50), 0);
  }

  private static void states() {
    TrustTin x = Dues.with(EACH, 1);
    x.change(0, 2, 0);
    Dues.go(x, 9940);
    Dues.due(18, "9940", x.tips(50, 10), 0);
    x.days(1);
    Dues.due(18, "9941", x.tips(50, 1), Dues.STATE);
    Dues.due(18, "9941, last 1000", x.tips(1000, 1), Dues.BEYOND);
    Dues.due(16, "9941 and 58", x.ahead(58, 4), 0);
    Dues.due(16, "9941 and 59", x.ahead(59, 4), Dues.STATE);
    Dues.due(16, "9941, what 6", x.ahead(100, 6), Dues.BEYOND);
    x.days(8);
    Dues.due(20, "9949 and 50", x.sign(50), 0);
    Dues.due(22, "9949 and 50", x.kindFor(0, 50), 0);
    Dues.due(23, "9949 and 50", x.told(0, 50), 0);
    x.days(1);
    Dues.due(20, "9950 and 50", x.sign(50), Dues.STATE);
    Dues.due(22, "9950 and 50", x.kindFor(0, 50), Dues.STATE);
    Dues.due(23, "9950 and 50", x.told(0, 50), Dues.STATE);
    Dues.due(22, "drinker 1", x.kindFor(1, 50), Dues.BEYOND);
    Dues.due(23, "drinker 1", x.told(1, 50), Dues.BEYOND);
    Dues.due(20, "51", x.sign(51), Dues.BEYOND);
    x.days(29);
    Dues.due(19, "9979 and 20", x.best(20), 0);
    Dues.due(21, "9979 and 20", x.potFor(20), 1);
    x.days(1);
    Dues.due(19, "9980 and 20", x.best(20), Dues.STATE);
    Dues.due(21, "9980 and 20", x.potFor(20), Dues.STATE);
    Dues.due(19, "21", x.best(21), Dues.BEYOND);
    Dues.due(21, "21", x.potFor(21), Dues.BEYOND);
    x.days(10);
    Dues.due(17, "9990", x.rests(), 1);
    x.days(1);
    Dues.due(17, "9991", x.rests(), Dues.STATE);
    x.days(3);
    Dues.due(28, "9994", x.odds(1, 0), 1);
    x.days(1);
    Dues.due(28, "9995", x.odds(1, 0), Dues.STATE);
    Dues.due(28, "9995, n 0", x.odds(0, 0), Dues.BEYOND);
    x.sheet(0, 8, 4);
    Dues.due(39, "9995 and 4", x.judge(0), 0);
    x.sheet(0, 8, 5);
    x.write(0, 0, 1);
    Dues.due(39, "9995 and 5", x.judge(0), Dues.STATE);
    x.days(4);
    x.sheet(0, 8, 0);
    Dues.due(39, "9999 and 0", x.judge(0), 0);
    Dues.due(16, "9999 and 0", x.ahead(0, 5), 0);
    Dues.due(16, "9999 and 1", x.ahead(1, 5), Dues.STATE);
  }
}
