/** What the tests share: counts answers that are not due, tells findings, helps with draws and texts. */
final class Dues {
  static final int BEYOND = -1000001;
  static final int FULL = -1000002;
  static final int KIND = -1000003;
  static final int NONE = -1000004;
  static final int STATE = -1000005;
  static final int MISSING = -1000006;
  static final int SIZE = -1000007;

  private static int wrong = 0;

  private Dues() {}

  static void due(int promise, String what, long got, long want) {
    if (got != want) {
      wrong++;
      System.out.println("promise " + promise + ": " + what + " answered " + got + ", due is " + want);
    }
  }

  static void end() {
    System.out.println(wrong == 0 ? "all answers are as due" : wrong + " answers are not as due");
    if (wrong != 0) {
      System.exit(1);
    }
  }

  static int after(int z, int draws) {
    int next = z;
    for (int i = 0; i < draws; i++) {
      next = next * 1103515245 + 12345;
    }
    return next;
  }

  /** A z whose first draw has this rest by 10. */
  static int seedWith(int rest) {
    int z = 1;
    while ((after(z, 1) >>> 8) % 10 != rest) {
      z++;
    }
    return z;
  }

  static TrustTin with(int... kindsAndCups) {
    TrustTin x = new TrustTin();
    for (int i = 0; i + 1 < kindsAndCups.length; i += 2) {
      x.drinker(kindsAndCups[i], kindsAndCups[i + 1]);
    }
    return x;
  }

  static void go(TrustTin x, int days) {
    for (int left = days; left > 0; left -= 50) {
      x.days(Math.min(left, 50));
    }
  }

  static void feed(TrustTin x, String text) {
    for (int i = 0; i < text.length(); i++) {
      x.feed(text.charAt(i), 1);
    }
  }

  static int read(TrustTin x, String text) {
    feed(x, text);
    return x.text();
  }
}
