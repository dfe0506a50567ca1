/** Promises 40 to 44. */
public final class ImagesTest {
  public static void main(String[] args) {
    images();
    imageOfANewOne();
    imageOfFullRows();
    all();
    count();
    status();
    Dues.end();
  }

  private static void images() {
    TrustTin x = new TrustTin();
    Dues.due(41, "nothing is kept", x.undo(), Dues.NONE);
    Dues.due(42, "nothing was", x.tear(), 0);
    x.days(3);
    Dues.due(40, "image", x.image(), 1);
    x.days(4);
    Dues.due(41, "undo", x.undo(), 3);
    Dues.due(41, "day", x.now(0), 3);
    x.days(1);
    Dues.due(41, "it stays", x.undo(), 3);
    x.days(5);
    x.image();
    x.days(5);
    Dues.due(41, "the latest", x.undo(), 8);
    Dues.due(42, "something was", x.tear(), 1);
    Dues.due(42, "nothing now", x.tear(), 0);
    Dues.due(42, "nothing is kept", x.undo(), Dues.NONE);
    Dues.due(42, "nothing changed", x.now(0), 8);
  }

  private static void imageOfANewOne() {
    TrustTin x = new TrustTin();
    Dues.due(40, "image of a new one", x.image(), 1);
    Dues.due(32, "a text", Dues.read(x, "price 9;pot 8;sign eyes;later 9 purse 3 limit 9"), 4);
    x.days(9);
    x.hold(0, 0);
    x.seed(7);
    Dues.due(40, "image of another one", x.tear(), 1);
    Dues.due(41, "torn", x.undo(), Dues.NONE);
    Dues.due(41, "nothing changed", x.now(0), 9);
    Dues.due(40, "image anew", x.image(), 1);
    Dues.due(40, "twice", x.image(), 1);
    x.drinker(0, 1);
    Dues.due(41, "undo", x.undo(), 9);
    Dues.due(41, "one", x.count(0), 1);
    Dues.due(42, "something is kept once", x.tear(), 1);
    Dues.due(42, "and no more", x.tear(), 0);
    x = new TrustTin();
    x.image();
    Dues.read(x, "price 9;pot 8;sign eyes;later 9 purse 3 limit 9");
    x.days(9);
    x.hold(0, 0);
    x.seed(7);
    Dues.due(41, "to a new one", x.undo(), 0);
    int[] counts = {0, 0, 5, 12, 0, 0, 1, 0};
    for (int what = 0; what < counts.length; what++) {
      Dues.due(41, "count(" + what + ") of a new one", x.count(what), counts[what]);
    }
    int[] nows = {0, 0, 12, 100, 0, 0, 0, 0, 0, 0};
    for (int what = 0; what < nows.length; what++) {
      Dues.due(41, "now(" + what + ") of a new one", x.now(what), nows[what]);
    }
    Dues.due(41, "the spot", x.as(0, 0), Dues.MISSING);
    Dues.due(32, "a text in the place of what is undone", Dues.read(x, "each 2"), 1);
    int[] first = {0, 2, 200, 20, 0, 0, 0};
    for (int what = 0; what < first.length; what++) {
      Dues.due(32, "of(0, " + what + ") of it", x.of(0, what), first[what]);
    }
  }

  /** All that is held in rows, to the last place of each. */
  private static void imageOfFullRows() {
    TrustTin x = Dues.with(0, 1, 1, 1, 5, 1, 0, 1, 1, 1, 5, 1, 0, 1, 1, 1, 5, 1, 0, 1);
    for (int d = 0; d < 10; d++) {
      x.change(d, 2, 9999);
      x.hold(d, d);
    }
    for (int week = 1; week <= 20; week++) {
      x.room(0, week % 20 + 1);
      x.change(9, 1, week % 9 + 1);
      x.days(5);
    }
    x.days(2);
    int[] before = all(x);
    x.image();
    for (int d = 0; d < 10; d++) {
      x.change(d, 2, d);
      x.change(d, 0, 3);
      x.hold(d, 9 - d);
    }
    Dues.go(x, 150);
    x.undo();
    int[] after = all(x);
    for (int i = 0; i < before.length; i++) {
      Dues.due(41, "what was kept of full rows, " + i, after[i], before[i]);
    }
  }

  private static int[] all(TrustTin x) {
    int[] told = new int[200];
    int n = 0;
    for (int what = 0; what < 10; what++) {
      told[n++] = x.now(what);
    }
    for (int what = 0; what < 8; what++) {
      told[n++] = what == 5 ? 0 : x.count(what);
    }
    for (int d = 0; d < x.count(0); d++) {
      for (int what = 0; what < 7; what++) {
        told[n++] = x.of(d, what);
      }
    }
    for (int i = 0; i < x.count(1); i++) {
      told[n++] = x.week(i, 0);
      told[n++] = x.week(i, 1);
    }
    for (int spot = 0; spot < 10; spot++) {
      told[n++] = x.as(spot, 0);
    }
    return told;
  }

  private static void all() {
    TrustTin x = Dues.with(0, 2, 1, 3, 2, 4, 3, 1, 4, 2, 6, 2);
    x.room(1, 3);
    x.days(13);
    x.hold(2, 3);
    x.hold(5, 1);
    x.sheet(0, 8, 2);
    Dues.feed(x, "pot");
    int[] before = all(x);
    x.image();
    x.days(50);
    x.room(0, 9);
    x.room(1, 20);
    x.room(2, 1);
    for (int what = 0; what < 4; what++) {
      x.change(0, what, 3);
    }
    x.drinker(0, 1);
    x.drinker(1, 1);
    x.days(1);
    x.hold(2, -1);
    x.hold(0, 6);
    x.empty();
    x.seed(99);
    x.sheet(0, 8, 7);
    x.sheet(1, 8, 7);
    Dues.feed(x, " 7");
    int findings = x.status(5);
    Dues.due(41, "undo", x.undo(), 13);
    int[] after = all(x);
    for (int i = 0; i < before.length; i++) {
      Dues.due(41, "what was kept, " + i, after[i], before[i]);
    }
    Dues.due(41, "sheets stay", x.write(0, 6, 1), 1);
    Dues.due(41, "sheets stay", x.write(1, 6, 1), 1);
    Dues.due(41, "the tape stays", x.text(), 1);
    Dues.due(41, "it is read", x.count(3), 7);
    // The ten spots were asked, and two of them hold something.
    Dues.due(44, "undo takes none back", x.status(-1), findings + 8);
    Dues.due(44, "undo takes none back", x.status(5), findings + 8);
    int[] first = {5, 9, 200, 20, 0, 0, 0};
    for (int d = 6; d < 8; d++) {
      x.drinker(5, 9);
      for (int what = 0; what < 7; what++) {
        Dues.due(2, "a new one in the place of one that is undone", x.of(d, what), first[what]);
      }
    }
    x.undo();
    Dues.due(41, "the image is its own", x.count(0), 6);
    Dues.due(41, "the image is its own", x.count(3), 3);
  }

  private static void count() {
    TrustTin x = Dues.with(0, 1, 0, 1);
    x.days(10);
    x.room(0, 7);
    x.room(1, 8);
    x.room(2, 1);
    x.seed(-5);
    x.feed(0, 3);
    x.hold(0, 1);
    x.hold(3, 1);
    x.hold(9, 0);
    int[] wants = {2, 2, 7, 8, 1, 3, -5, 3};
    for (int what = 0; what < wants.length; what++) {
      Dues.due(43, "count(" + what + ")", x.count(what), wants[what]);
    }
    Dues.due(43, "what -1", x.count(-1), Dues.BEYOND);
    Dues.due(43, "what 8", x.count(8), Dues.BEYOND);
    x.seed(-1000001);
    Dues.due(43, "z is no finding", x.count(6), -1000001);
    Dues.due(43, "z is no finding", x.status(-1), 2);
  }

  private static void status() {
    TrustTin x = Dues.with(0, 1, 0, 1, 0, 1, 0, 1, 0, 1, 0, 1, 0, 1, 0, 1, 0, 1, 0, 1);
    x.image();
    x.of(10, 0);
    x.drinker(0, 1);
    x.drinker(0, 1);
    x.hold(0, 0);
    for (int i = 0; i < 3; i++) {
      x.as(0, 1);
    }
    for (int i = 0; i < 4; i++) {
      x.week(0, 0);
    }
    for (int i = 0; i < 6; i++) {
      x.load(0);
    }
    for (int i = 0; i < 7; i++) {
      x.sheet(0, 8, -1);
    }
    Dues.due(44, "text", Dues.read(x, "tea"), -1);
    x.undo();
    int[] wants = {1, 2, 3, 4, 0, 6, 7};
    for (int which = 0; which < wants.length; which++) {
      Dues.due(44, "status(" + which + ")", x.status(which), wants[which]);
    }
    Dues.due(44, "all", x.status(-1), 23);
    Dues.due(44, "which -2", x.status(-2), Dues.BEYOND);
    Dues.due(44, "which 7", x.status(7), Dues.BEYOND);
    Dues.due(44, "counted from then on", x.status(0), 3);
    Dues.due(44, "all", x.status(-1), 25);
    Dues.go(x, 9950);
    x.days(50);
    Dues.due(44, "state", x.status(4), 1);
  }
}
