/** Promises 30 to 32. */
public final class TextsTest {
  public static void main(String[] args) {
    feed();
    texts();
    values();
    allValues();
    allBytes();
    faults();
    manyDrinkers();
    Dues.end();
  }

  private static void feed() {
    TrustTin x = new TrustTin();
    Dues.due(30, "n 0", x.feed(1, 0), Dues.BEYOND);
    Dues.due(30, "n 5", x.feed(1, 5), Dues.BEYOND);
    Dues.due(30, "n -1", x.feed(1, -1), Dues.BEYOND);
    Dues.due(30, "po", x.feed('x' << 16 | 'p' << 8 | 'o', 2), 2);
    Dues.due(30, "t34;", x.feed('t' << 24 | '3' << 16 | '4' << 8 | ';', 4), 6);
    Dues.due(30, "pot", x.feed(255 << 24 | 'p' << 16 | 'o' << 8 | 't', 3), 9);
    Dues.due(30, "9", x.feed('9', 1), 10);
    Dues.due(30, "count", x.count(5), 10);
    Dues.due(30, "the text", x.text(), 2);
    Dues.due(30, "pot 9", x.count(3), 9);
    for (int i = 1; i <= 29; i++) {
      Dues.due(30, "feed", x.feed(-1, 4), 4 * i);
    }
    Dues.due(30, "119", x.feed(0, 3), 119);
    Dues.due(30, "no room for two", x.feed(0, 2), Dues.FULL);
    Dues.due(30, "n 5 with no room", x.feed(0, 5), Dues.BEYOND);
    Dues.due(30, "nothing changed", x.count(5), 119);
    Dues.due(30, "120", x.feed(0, 1), 120);
    Dues.due(30, "full", x.feed(0, 1), Dues.FULL);
    Dues.due(31, "wipe", x.wipe(), 120);
    Dues.due(31, "wiped", x.count(5), 0);
    Dues.due(31, "again", x.wipe(), 0);
    Dues.feed(x, "price 7");
    x.wipe();
    Dues.due(31, "nothing is read", x.text(), -1);
    Dues.due(31, "price", x.count(2), 5);
  }

  private static void texts() {
    String[] kinds = {"each", "later", "forgets", "never", "if", "twice", "maker"};
    TrustTin x = new TrustTin();
    for (int kind = 0; kind < kinds.length; kind++) {
      Dues.due(32, kinds[kind], Dues.read(x, kinds[kind] + " " + (kind + 1)), 1);
      Dues.due(32, "the tape is empty", x.count(5), 0);
      Dues.due(32, "kind", x.of(kind, 0), kind);
      Dues.due(32, "cups", x.of(kind, 1), kind + 1);
      Dues.due(32, "purse", x.of(kind, 2), 200);
      Dues.due(32, "limit", x.of(kind, 3), 20);
    }
    String[] signs = {"none", "flowers", "eyes"};
    for (int sign = 2; sign >= 0; sign--) {
      Dues.due(32, signs[sign], Dues.read(x, "sign " + signs[sign]), 1);
      Dues.due(32, "sign", x.count(4), sign);
    }
  }

  private static void values() {
    TrustTin x = new TrustTin();
    String text = "each9purse0limit99;  later 1 limit 0 ;price 7;pot 3;pot 99 ; sign eyes;twice 007 purse 9999  ";
    Dues.due(32, "items", Dues.read(x, text), 7);
    int[][] wants = {{0, 9, 0, 99}, {1, 1, 200, 0}, {5, 7, 9999, 20}};
    for (int d = 0; d < wants.length; d++) {
      for (int what = 0; what < 4; what++) {
        Dues.due(32, "of(" + d + ", " + what + ")", x.of(d, what), wants[d][what]);
      }
    }
    Dues.due(32, "price", x.count(2), 7);
    Dues.due(32, "pot", x.count(3), 99);
    Dues.due(32, "left", x.now(2), 99);
    Dues.due(32, "sign", x.count(4), 2);
    Dues.due(32, "no findings", x.status(-1), 0);
    Dues.due(32, "the least", Dues.read(x, "price 0;pot 1"), 2);
    Dues.due(32, "price 0", x.count(2), 0);
    Dues.due(32, "pot 1", x.count(3), 1);
    Dues.due(32, "the most", Dues.read(x, "price 99;pot 99"), 2);
    Dues.due(32, "price 99", x.count(2), 99);
    Dues.due(32, "pot 99", x.count(3), 99);
    x.room(0, 7);
    x.days(1);
    Dues.due(32, "a new one of a text", Dues.read(x, "each 1"), 1);
    Dues.due(32, "has not drunk", x.of(3, 5), 0);
    Dues.due(32, "the others have", x.of(2, 5), 7);
    Dues.due(32, "day stays", x.now(0), 1);
  }

  private static void fault(String text, int fault) {
    TrustTin x = Dues.with(0, 3);
    x.days(1);
    x.hold(4, 0);
    Dues.due(32, "'" + text + "'", Dues.read(x, text), -1 - fault);
    Dues.due(32, "the tape is empty", x.count(5), 0);
    Dues.due(32, "no drinker came", x.count(0), 1);
    Dues.due(32, "price", x.count(2), 5);
    Dues.due(32, "pot", x.count(3), 12);
    Dues.due(32, "left", x.now(2), 12);
    Dues.due(32, "sign", x.count(4), 0);
    Dues.due(32, "purse", x.of(0, 2), 185);
    Dues.due(32, "no finding", x.status(-1), 0);
  }

  private static void faults() {
    fault("", 0);
    fault("   ", 3);
    fault(";", 0);
    fault("price 3;", 8);
    fault("price 3;  ", 10);
    fault("price 3;;pot 3", 8);
    fault("price 3 pot 3", 8);
    fault("price", 5);
    fault("price  ", 7);
    fault("price pot", 6);
    fault("price 100", 6);
    fault("pot 0", 4);
    fault("pot 100", 4);
    fault("pot 12345678901234567890", 4);
    fault("sign 1", 5);
    fault("sign sign", 5);
    fault("sign;", 4);
    fault("eyes", 0);
    fault("purse 3", 0);
    fault("limit 3", 0);
    fault("7", 0);
    fault("each", 4);
    fault("each 0", 5);
    fault("each 10", 5);
    fault("each;", 4);
    fault("each 3 purse", 12);
    fault("each 3 purse 10000", 13);
    fault("each 3 purse limit 3", 13);
    fault("each 3 limit 100", 13);
    fault("each 3 limit 4 purse 3", 15);
    fault("each 3 purse 4 purse 3", 15);
    fault("each 3 pot 4", 7);
    fault("each 3 4", 7);
    fault("Each 3", 0);
    fault("eaches 3", 0);
    fault("eac 3", 0);
    fault("each\t3", 4);
    fault("each 3,", 6);
    fault("pot 3" + (char) 0, 5);
    fault("pot" + (char) 0 + "3", 3);
    fault("xot 3", 0);
    fault("potz 3", 0);
    fault("pota 3", 0);
    fault("pot`3", 3);
    fault("pot{3", 3);
    fault("pot /3", 4);
    fault("pot :3", 4);
    fault("price 3;sign eyes;pot 3;later 4;each 3 " + (char) 233, 39);
    fault("price 3;pot 3;sign eyes;each 2;x", 31);
    fault("price3pot", 6);
    fault("pr ice 3", 0);
    fault("pricepot 3", 0);
    fault("price 1 2", 8);
    fault("price 9 9", 8);
    fault("price -1", 6);
    fault("price 3 ; ", 10);
    fault("pot 9999", 4);
    fault("pot 10000", 4);
    fault("pot 4294967297", 4);
    fault("pot ;", 4);
    fault("  pot  ", 7);
    fault("each12", 4);
    fault("each 99", 5);
    fault("each 1 1", 7);
    fault("each 1;;each 1", 7);
    fault("each 1 purse", 12);
    fault("each 1 purse ;", 13);
    fault("each 1 purse 65536", 13);
    fault("each 1 limit", 12);
    fault("each 1 limit 9999", 13);
    fault("each 1 limit 3 limit 4", 15);
    fault("each 3purse9999limit100", 20);
    fault("each 1 each 1", 7);
    fault("each 1 sign eyes", 7);
    fault("each purse 3 1", 5);
    fault("sign", 4);
    fault("sign  ", 6);
    fault("sign none eyes", 10);
    fault("sign eye", 5);
    fault("sign eyess", 5);
    fault("sign flower", 5);
    fault("sign each", 5);
    fault("signeyes", 0);
    fault("none", 0);
    fault("EACH 1", 0);
    fault("each 1;Pot 3", 7);
    fault("each 1;pot 3;9", 13);
  }

  private static void manyDrinkers() {
    TrustTin x = new TrustTin();
    Dues.due(32, "ten", Dues.read(x, "if1;if1;if1;if1;if1;if1;if1;if1;if1;if1"), 10);
    Dues.due(32, "an 11th", Dues.read(x, "price 3;  each 1"), -11);
    Dues.due(32, "an 11th whose cups are wrong, too", Dues.read(x, "each 0"), -1);
    Dues.due(32, "price", x.count(2), 5);
    Dues.due(32, "no drinker", Dues.read(x, "price 3"), 1);
    x = Dues.with(0, 1, 0, 1, 0, 1, 0, 1, 0, 1, 0, 1, 0, 1, 0, 1, 0, 1);
    Dues.due(32, "the 11th in a text", Dues.read(x, "each 1;each 2;each 3"), -8);
    Dues.due(32, "none came", x.count(0), 9);
    Dues.due(32, "the tenth", Dues.read(x, "maker 4"), 1);
    Dues.due(32, "it came", x.of(9, 0), 6);
    x = new TrustTin();
    StringBuilder full = new StringBuilder("pot 9");
    while (full.length() < 120) {
      full.append(full.length() < 100 ? ";pot 8" : " ");
    }
    Dues.due(32, "120 bytes", Dues.read(x, full.toString()), 17);
    full.setCharAt(5, ';');
    full.setCharAt(6, 'x');
    Dues.due(32, "120 bytes with a fault", Dues.read(x, full.toString()), -7);
    full.setLength(5);
    full.append(';');
    while (full.length() < 120) {
      full.append(' ');
    }
    Dues.due(32, "120 bytes that end too early", Dues.read(x, full.toString()), -121);
    full.setLength(114);
    full.setCharAt(5, ' ');
    full.append(";pot 7");
    Dues.due(32, "the last of 120 bytes", Dues.read(x, full.toString()), 2);
    Dues.due(32, "the last item", x.count(3), 7);
    x = new TrustTin();
    Dues.due(32, "twenty blanks, then 20 items", Dues.read(x, twentyItemsBehindBlanks()), 20);
    Dues.due(32, "ten of them drinkers", x.count(0), 10);
    Dues.due(32, "the last one", x.of(9, 1), 9);
  }

  private static String twentyItemsBehindBlanks() {
    StringBuilder text = new StringBuilder("                    ");
    for (int i = 0; i < 10; i++) {
      text.append(i == 0 ? "pot" : ";pot").append(i + 1).append(";if").append(Math.max(i, 1));
    }
    return text.toString();
  }

  /** Each byte that begins no token, where an item could begin, and each that a blank could stand for. */
  private static void allBytes() {
    for (int b = 0; b < 256; b++) {
      TrustTin x = new TrustTin();
      Dues.feed(x, "pot");
      x.feed(b, 1);
      Dues.feed(x, "7");
      boolean isDigit = b >= '0' && b <= '9';
      boolean isLetter = b >= 'a' && b <= 'z';
      int want = b == ' ' || isDigit ? 1 : isLetter ? -1 : -4;
      Dues.due(32, "pot, byte " + b + ", 7", x.text(), want);
      Dues.due(32, "pot behind byte " + b, x.count(3), b == ' ' ? 7 : isDigit ? 10 * (b - '0') + 7 : 12);
    }
  }

  /** Each value that an item may tell, and the ones next to them. */
  private static void allValues() {
    String[] items = {"each ", "each 1 purse ", "each 1 limit ", "price ", "pot "};
    int[] low = {1, 0, 0, 0, 1};
    int[] high = {9, 9999, 99, 99, 99};
    int[] places = {5, 13, 13, 6, 4};
    for (int i = 0; i < items.length; i++) {
      for (int v : new int[] {0, 1, 2, 8, 9, 10, 98, 99, 100, 9998, 9999, 10000, 10001, 99999}) {
        TrustTin x = new TrustTin();
        boolean fits = v >= low[i] && v <= high[i];
        Dues.due(32, items[i] + v, Dues.read(x, items[i] + v), fits ? 1 : -1 - places[i]);
        int[] first = {Dues.BEYOND, Dues.BEYOND, Dues.BEYOND, 5, 12};
        int got = i < 3 ? x.of(0, i + 1) : x.count(i - 1);
        Dues.due(32, items[i] + v + " told", got, fits ? v : first[i]);
        Dues.due(32, items[i] + v + ": left", x.now(2), fits && i == 4 ? v : 12);
      }
    }
  }
}
