/**
 * A jar for coffee: a room with a pot, a tin, a price and a sign, and drinkers who pay in seven ways.
 *
 * <p>All rows are made in the constructor and used again: no call makes an object.
 */
public final class TrustTin {
  private static final int LOW = -1000001;

  // Findings, by how far below LOW they are told; status() counts them by the same numbers.
  private static final int BEYOND = 0;
  private static final int FULL = 1;
  private static final int KIND = 2;
  private static final int NONE = 3;
  private static final int STATE = 4;
  private static final int MISSING = 5;
  private static final int SIZE = 6;
  private static final int FINDINGS = 7;

  private static final int MOST_DRINKERS = 10;
  private static final int MOST_CUPS = 9;
  private static final int MOST_PURSE = 9999;
  private static final int MOST_LIMIT = 99;
  private static final int MOST_PRICE = 99;
  private static final int MOST_POT = 99;
  private static final int MOST_SIGN = 2;
  private static final int MOST_LAST = 999;
  private static final int MOST_SUM = 9999;
  private static final int MOST_WEEKS = 20;
  private static final int MOST_BYTES = 120;
  private static final int MOST_NUMBERS = 40;
  private static final int LAST_DAY = 9999;
  private static final int WEEK = 5;
  private static final int SPOTS = 10;
  private static final int SHEETS = 4;

  private static final int EACH = 0;
  private static final int LATER = 1;
  private static final int FORGETS = 2;
  private static final int NEVER = 3;
  private static final int IF = 4;
  private static final int TWICE = 5;
  private static final int MAKER = 6;
  private static final int KINDS = 7;
  /** The kind above each kind, -1 above EACH. */
  private static final int[] ABOVE = {-1, EACH, EACH, EACH, FORGETS, EACH, LATER};

  // What of() tells of a drinker.
  private static final int OF_KIND = 0;
  private static final int OF_CUPS = 1;
  private static final int OF_PURSE = 2;
  private static final int OF_LIMIT = 3;
  private static final int OF_DEBT = 4;
  private static final int OF_DRUNK = 5;
  private static final int OF_PAID = 6;

  private final Room real = new Room();
  private final Room kept = new Room();
  /** Where all that goes on AHEAD goes on, and where a text is tried before it is so. */
  private final Room trial = new Room();
  private boolean isKept = false;
  private final Tape tape = new Tape();
  private final TextReader reader = new TextReader(tape);
  private final Sheet[] sheets = new Sheet[SHEETS];
  private final int[] findings = new int[FINDINGS];

  public TrustTin() {
    for (int s = 0; s < SHEETS; s++) {
      sheets[s] = new Sheet();
    }
  }

  // ---- drinkers, the room

  public int drinker(int kind, int cups) {
    if (!within(kind, 0, KINDS - 1) || !within(cups, 1, MOST_CUPS)) {
      return tell(BEYOND);
    }
    if (real.size >= MOST_DRINKERS) {
      return tell(FULL);
    }
    real.addDrinker(kind, cups);
    return real.size - 1;
  }

  public int of(int drinker, int what) {
    if (!isDrinker(drinker) || !within(what, OF_KIND, OF_PAID)) {
      return tell(BEYOND);
    }
    return real.drinkers[drinker].get(what);
  }

  public int change(int drinker, int what, int v) {
    if (!isDrinker(drinker) || !canBecome(what, v)) {
      return tell(BEYOND);
    }
    int before = real.drinkers[drinker].get(what);
    real.drinkers[drinker].set(what, v);
    return before;
  }

  public int room(int what, int v) {
    switch (what) {
      case 0:
        return changePrice(v);
      case 1:
        return changePot(v);
      case 2:
        return changeSign(v);
      default:
        return tell(BEYOND);
    }
  }

  public int empty() {
    int before = real.tin;
    real.tin = 0;
    return before;
  }

  public int taken(int v) {
    if (!within(v, 1, 999)) {
      return tell(BEYOND);
    }
    int gone = Math.min(v, real.tin);
    real.tin -= gone;
    return gone;
  }

  public int forgive(int drinker) {
    if (!isDrinker(drinker)) {
      return tell(BEYOND);
    }
    int before = real.drinkers[drinker].debt;
    real.drinkers[drinker].debt = 0;
    return before;
  }

  public int now(int what) {
    switch (what) {
      case 0:
        return real.day;
      case 1:
        return real.tin;
      case 2:
        return real.left;
      case 3:
        return real.last;
      case 4:
        return real.due();
      case 5:
        return real.missed;
      case 6:
        return real.sumOf(OF_DEBT);
      case 7:
        return real.sumOf(OF_PURSE);
      case 8:
        return real.sumOf(OF_DRUNK);
      case 9:
        return real.sumOf(OF_PAID);
      default:
        return tell(BEYOND);
    }
  }

  // ---- days

  public int days(int n) {
    if (!within(n, 1, 50)) {
      return tell(BEYOND);
    }
    if (isTooLate(n)) {
      return tell(STATE);
    }
    return real.goDays(n);
  }

  public int week(int i, int what) {
    if (i < 0 || !within(what, 0, 1)) {
      return tell(BEYOND);
    }
    if (i >= real.books.size) {
      return tell(NONE);
    }
    return what == 0 ? real.books.cups[i] : real.books.coins[i];
  }

  public int each(int part) {
    if (!within(part, 0, 1)) {
      return tell(BEYOND);
    }
    int cups = real.books.allCups();
    if (cups == 0) {
      return tell(NONE);
    }
    int coins = real.books.allCoins();
    int divisor = commonDivisor(coins, cups);
    return (part == 0 ? coins : cups) / divisor;
  }

  // ---- who can

  public int many(int sum) {
    if (!within(sum, 0, MOST_SUM)) {
      return tell(BEYOND);
    }
    int found = 0;
    for (int set = 1; set < 1 << real.size; set++) {
      if (real.dueOf(set) == sum) {
        found++;
      }
    }
    return found;
  }

  public int who(int sum, int what) {
    if (!within(sum, 0, MOST_SUM) || !within(what, 0, 1)) {
      return tell(BEYOND);
    }
    int inAll = -1;
    int inAny = 0;
    for (int set = 1; set < 1 << real.size; set++) {
      if (real.dueOf(set) == sum) {
        inAll &= set;
        inAny |= set;
      }
    }
    if (inAny == 0) {
      return tell(NONE);
    }
    return what == 0 ? inAll : inAny;
  }

  public int fewest(int sum) {
    if (!within(sum, 0, MOST_SUM)) {
      return tell(BEYOND);
    }
    int best = 0;
    for (int set = 1; set < 1 << real.size; set++) {
      boolean fewer = best == 0 || Integer.bitCount(set) < Integer.bitCount(best);
      if (fewer && real.dueOf(set) == sum) {
        best = set;
      }
    }
    return best == 0 ? tell(NONE) : best;
  }

  // ---- ahead

  public int ahead(int n, int what) {
    if (!within(n, 0, 100) || !within(what, 0, 5)) {
      return tell(BEYOND);
    }
    if (isTooLate(n)) {
      return tell(STATE);
    }
    trial.takeRoom(real);
    int coins = trial.goDays(n);
    switch (what) {
      case 0:
        return trial.tin;
      case 1:
        return trial.served - real.served;
      case 2:
        return trial.sumOf(OF_DEBT);
      case 3:
        return trial.missed - real.missed;
      case 4:
        return coins;
      default:
        return trial.last;
    }
  }

  public int rests() {
    if (real.day > 9990) {
      return tell(STATE);
    }
    int set = 0;
    for (int k = 0; k <= 10; k++) {
      if (lastBehindWeeks(10 * k, 1) == 10 * k) {
        set |= 1 << k;
      }
    }
    return set;
  }

  public int tips(int last, int n) {
    if (!within(last, 0, MOST_LAST) || !within(n, 1, 10)) {
      return tell(BEYOND);
    }
    if (real.day > 9940) {
      return tell(STATE);
    }
    return lastBehindWeeks(last, n);
  }

  public int best(int n) {
    if (!within(n, 1, 20)) {
      return tell(BEYOND);
    }
    if (isTooLate(n)) {
      return tell(STATE);
    }
    int best = 0;
    int most = -1;
    for (int price = 0; price <= MOST_PRICE; price++) {
      trial.takeRoom(real);
      trial.price = price;
      int coins = trial.goDays(n);
      if (coins > most) {
        most = coins;
        best = price;
      }
    }
    return best;
  }

  public int sign(int n) {
    if (!within(n, 1, 50)) {
      return tell(BEYOND);
    }
    if (isTooLate(n)) {
      return tell(STATE);
    }
    int best = 0;
    int most = -1;
    for (int sign = 0; sign <= MOST_SIGN; sign++) {
      trial.takeRoom(real);
      trial.sign = sign;
      int coins = trial.goDays(n);
      if (coins > most) {
        most = coins;
        best = sign;
      }
    }
    return best;
  }

  public int potFor(int n) {
    if (!within(n, 1, 20)) {
      return tell(BEYOND);
    }
    if (isTooLate(n)) {
      return tell(STATE);
    }
    for (int pot = 1; pot <= MOST_POT; pot++) {
      trial.takeRoom(real);
      trial.setPot(pot);
      trial.goDays(n);
      if (trial.missed == real.missed) {
        return pot;
      }
    }
    return tell(NONE);
  }

  public int kindFor(int drinker, int n) {
    if (!isDrinker(drinker) || !within(n, 1, 50)) {
      return tell(BEYOND);
    }
    if (isTooLate(n)) {
      return tell(STATE);
    }
    int best = 0;
    int most = 0;
    for (int kind = 0; kind < KINDS; kind++) {
      trial.takeRoom(real);
      Drinker one = trial.drinkers[drinker];
      one.kind = kind;
      trial.goDays(n);
      int has = one.purse - one.debt;
      if (kind == 0 || has > most) {
        most = has;
        best = kind;
      }
    }
    return best;
  }

  public int told(int drinker, int n) {
    if (!isDrinker(drinker) || !within(n, 1, 50)) {
      return tell(BEYOND);
    }
    if (isTooLate(n)) {
      return tell(STATE);
    }
    trial.takeRoom(real);
    int asItIs = trial.goDays(n);
    trial.takeRoom(real);
    trial.drinkers[drinker].kind = EACH;
    return trial.goDays(n) - asItIs;
  }

  // ---- ways

  public int uneven(int way) {
    if (!within(way, 0, 2)) {
      return tell(BEYOND);
    }
    int payers = real.drinkersWhoDrank();
    if (payers == 0) {
      return tell(NONE);
    }
    int levy = real.due() / payers;
    int greatest = -1;
    int least = -1;
    for (int d = 0; d < real.size; d++) {
      Drinker one = real.drinkers[d];
      if (one.drunk > 0) {
        int perCup = coinsByWay(one, way, levy) * 100 / one.drunk;
        greatest = Math.max(greatest, perCup);
        least = least < 0 ? perCup : Math.min(least, perCup);
      }
    }
    return greatest - least;
  }

  public int strokes() {
    int cups = real.sumOf(OF_DRUNK);
    int written = 0;
    for (int cup = 0; cup < cups; cup++) {
      int rest = real.draw() % 10;
      if (rest != 0) {
        written += rest == 1 ? 2 : 1;
      }
    }
    return written;
  }

  public int lacks() {
    return real.due() - real.sumOf(OF_PAID) - real.sumOf(OF_DEBT);
  }

  public int owes() {
    if (real.size == 0) {
      return tell(NONE);
    }
    int who = 0;
    int most = real.owedBy(0);
    for (int d = 1; d < real.size; d++) {
      int owed = real.owedBy(d);
      if (owed > most) {
        most = owed;
        who = d;
      }
    }
    return who;
  }

  public int odds(int n, int v) {
    if (!within(n, 1, 20) || !within(v, 0, MOST_SUM)) {
      return tell(BEYOND);
    }
    if (isTooLate(WEEK)) {
      return tell(STATE);
    }
    int often = 0;
    for (int time = 0; time < n; time++) {
      trial.takeRoom(real);
      if (trial.goDays(WEEK) >= v) {
        often++;
      }
      real.z = trial.z;
    }
    return often;
  }

  public int seed(int v) {
    int before = real.z;
    real.z = v;
    return before;
  }

  // ---- texts

  public int feed(int bytes, int n) {
    if (!within(n, 1, 4)) {
      return tell(BEYOND);
    }
    if (tape.size + n > MOST_BYTES) {
      return tell(FULL);
    }
    for (int place = n - 1; place >= 0; place--) {
      tape.put(bytes >>> 8 * place & 255);
    }
    return tape.size;
  }

  public int wipe() {
    int before = tape.size;
    tape.size = 0;
    return before;
  }

  public int text() {
    trial.takeRoom(real);
    int items = reader.read(trial);
    if (items >= 0) {
      real.takeRoom(trial);
    }
    tape.size = 0;
    return items;
  }

  // ---- spots, sheets

  public int hold(int spot, int drinker) {
    if (!within(spot, 0, SPOTS - 1) || drinker != Room.NOBODY && !isDrinker(drinker)) {
      return tell(BEYOND);
    }
    real.spots[spot] = drinker;
    return 1;
  }

  public int as(int spot, int kind) {
    if (!within(spot, 0, SPOTS - 1) || !within(kind, 0, KINDS - 1)) {
      return tell(BEYOND);
    }
    int drinker = real.spots[spot];
    if (!isDrinker(drinker)) {
      return tell(MISSING);
    }
    return isUnder(real.drinkers[drinker].kind, kind) ? drinker : tell(KIND);
  }

  public int sheet(int s, int bits, int n) {
    if (!isSheet(s) || bits != 0 && bits != 8 && bits != 16 && bits != 32) {
      return tell(BEYOND);
    }
    if (n < 0) {
      return tell(SIZE);
    }
    if (n > MOST_NUMBERS) {
      return tell(BEYOND);
    }
    sheets[s].begin(bits, bits == 0 ? 0 : n);
    return sheets[s].size;
  }

  public int write(int s, int i, int v) {
    if (!isSheet(s)) {
      return tell(BEYOND);
    }
    if (sheets[s].isMissing()) {
      return tell(MISSING);
    }
    if (!within(i, 0, sheets[s].size - 1)) {
      return tell(BEYOND);
    }
    sheets[s].put(i, v);
    return 1;
  }

  public int copy(int s, int from, int t, int to, int n) {
    if (!isSheet(s) || !isSheet(t)) {
      return tell(BEYOND);
    }
    Sheet source = sheets[s];
    Sheet target = sheets[t];
    if (source.isMissing() || target.isMissing()) {
      return tell(MISSING);
    }
    if (source.bits != target.bits) {
      return tell(KIND);
    }
    if (!source.has(from, n) || !target.has(to, n)) {
      return tell(BEYOND);
    }
    System.arraycopy(source.numbers, from, target.numbers, to, n);
    return n;
  }

  public int load(int s) {
    if (!isSheet(s)) {
      return tell(BEYOND);
    }
    Sheet source = sheets[s];
    if (source.isMissing()) {
      return tell(MISSING);
    }
    int most = Math.min(source.size, real.size);
    int came = 0;
    while (came < most && within(source.numbers[came], 0, MOST_PURSE)) {
      real.drinkers[came].purse = source.numbers[came];
      came++;
    }
    return came;
  }

  public int judge(int s) {
    if (!isSheet(s)) {
      return tell(BEYOND);
    }
    Sheet source = sheets[s];
    if (source.isMissing()) {
      return tell(MISSING);
    }
    if (isTooLate(source.size)) {
      return tell(STATE);
    }
    trial.takeRoom(real);
    for (int i = 0; i < source.size; i++) {
      if (trial.goDays(1) != source.numbers[i]) {
        return 1 + i;
      }
    }
    return 0;
  }

  // ---- images

  public int image() {
    kept.takeAll(real);
    isKept = true;
    return 1;
  }

  public int undo() {
    if (!isKept) {
      return tell(NONE);
    }
    real.takeAll(kept);
    return real.day;
  }

  public int tear() {
    int before = isKept ? 1 : 0;
    isKept = false;
    return before;
  }

  public int count(int what) {
    switch (what) {
      case 0:
        return real.size;
      case 1:
        return real.books.size;
      case 2:
        return real.price;
      case 3:
        return real.pot;
      case 4:
        return real.sign;
      case 5:
        return tape.size;
      case 6:
        return real.z;
      case 7:
        return real.heldSpots();
      default:
        return tell(BEYOND);
    }
  }

  public int status(int which) {
    if (!within(which, -1, FINDINGS - 1)) {
      return tell(BEYOND);
    }
    if (which >= 0) {
      return findings[which];
    }
    int all = 0;
    for (int f = 0; f < FINDINGS; f++) {
      all += findings[f];
    }
    return all;
  }

  // ---- what several calls use

  private int tell(int finding) {
    findings[finding]++;
    return LOW - finding;
  }

  private boolean isDrinker(int drinker) {
    return within(drinker, 0, real.size - 1);
  }

  private boolean isTooLate(int n) {
    return real.day + n > LAST_DAY;
  }

  private int changePrice(int v) {
    if (!within(v, 0, MOST_PRICE)) {
      return tell(BEYOND);
    }
    int before = real.price;
    real.price = v;
    return before;
  }

  private int changePot(int v) {
    if (!within(v, 1, MOST_POT)) {
      return tell(BEYOND);
    }
    int before = real.pot;
    real.setPot(v);
    return before;
  }

  private int changeSign(int v) {
    if (!within(v, 0, MOST_SIGN)) {
      return tell(BEYOND);
    }
    int before = real.sign;
    real.sign = v;
    return before;
  }

  /** LAST behind n weeks from a Monday's begin, as asked of a REST. */
  private int lastBehindWeeks(int last, int n) {
    trial.takeRoom(real);
    trial.beginMonday();
    trial.last = last;
    trial.goDays(n * WEEK);
    return trial.last;
  }

  private int coinsByWay(Drinker one, int way, int levy) {
    switch (way) {
      case 0:
        return one.paid;
      case 1:
        return real.price * one.drunk;
      default:
        return levy;
    }
  }

  private static boolean within(int v, int low, int high) {
    return v >= low && v <= high;
  }

  private static boolean isSheet(int s) {
    return within(s, 0, SHEETS - 1);
  }

  private static boolean canBecome(int what, int v) {
    switch (what) {
      case OF_KIND:
        return within(v, 0, KINDS - 1);
      case OF_CUPS:
        return within(v, 1, MOST_CUPS);
      case OF_PURSE:
        return within(v, 0, MOST_PURSE);
      case OF_LIMIT:
        return within(v, 0, MOST_LIMIT);
      default:
        return false;
    }
  }

  private static boolean isUnder(int kind, int wanted) {
    int above = kind;
    for (int level = 0; level < KINDS && within(above, 0, KINDS - 1); level++) {
      if (above == wanted) {
        return true;
      }
      above = ABOVE[above];
    }
    return false;
  }

  /** The greatest number that divides both; 1 at least. */
  private static int commonDivisor(int a, int b) {
    int greater = Math.abs(a);
    int lesser = Math.abs(b);
    // An int's pair takes under fifty steps.
    for (int step = 0; step < 100 && lesser > 0; step++) {
      int rest = greater % lesser;
      greater = lesser;
      lesser = rest;
    }
    return Math.max(greater, 1);
  }

  private static final class Drinker {
    int kind;
    int cups;
    int purse;
    int limit;
    int debt;
    int drunk;
    int paid;

    void begin(int ofKind, int ofCups) {
      kind = ofKind;
      cups = ofCups;
      purse = 200;
      limit = 20;
      debt = 0;
      drunk = 0;
      paid = 0;
    }

    void take(Drinker other) {
      kind = other.kind;
      cups = other.cups;
      purse = other.purse;
      limit = other.limit;
      debt = other.debt;
      drunk = other.drunk;
      paid = other.paid;
    }

    int get(int what) {
      switch (what) {
        case OF_KIND:
          return kind;
        case OF_CUPS:
          return cups;
        case OF_PURSE:
          return purse;
        case OF_LIMIT:
          return limit;
        case OF_DEBT:
          return debt;
        case OF_DRUNK:
          return drunk;
        default:
          return paid;
      }
    }

    void set(int what, int v) {
      switch (what) {
        case OF_KIND:
          kind = v;
          break;
        case OF_CUPS:
          cups = v;
          break;
        case OF_PURSE:
          purse = v;
          break;
        default:
          limit = v;
          break;
      }
    }
  }

  /** The latest weeks, the latest one first. */
  private static final class Books {
    final int[] cups = new int[MOST_WEEKS];
    final int[] coins = new int[MOST_WEEKS];
    int size = 0;

    void put(int weekCups, int weekCoins) {
      System.arraycopy(cups, 0, cups, 1, MOST_WEEKS - 1);
      System.arraycopy(coins, 0, coins, 1, MOST_WEEKS - 1);
      cups[0] = weekCups;
      coins[0] = weekCoins;
      size = Math.min(size + 1, MOST_WEEKS);
    }

    void take(Books other) {
      System.arraycopy(other.cups, 0, cups, 0, MOST_WEEKS);
      System.arraycopy(other.coins, 0, coins, 0, MOST_WEEKS);
      size = other.size;
    }

    int allCups() {
      return sumOfFirst(cups, size);
    }

    int allCoins() {
      return sumOfFirst(coins, size);
    }

    private static int sumOfFirst(int[] row, int n) {
      int sum = 0;
      for (int i = 0; i < n && i < row.length; i++) {
        sum += row[i];
      }
      return sum;
    }
  }

  private static final class Room {
    static final int NOBODY = -1;

    final Drinker[] drinkers = new Drinker[MOST_DRINKERS];
    int size = 0;
    int price = 5;
    int pot = 12;
    int left = 12;
    int tin = 0;
    int sign = 0;
    int last = 100;
    int day = 0;
    int missed = 0;
    /** Cups ever: DRUNK begins anew with each week, but ahead() asks over several. */
    int served = 0;
    int z = 1;
    final Books books = new Books();
    final int[] spots = new int[SPOTS];

    Room() {
      for (int d = 0; d < MOST_DRINKERS; d++) {
        drinkers[d] = new Drinker();
      }
      for (int spot = 0; spot < SPOTS; spot++) {
        spots[spot] = NOBODY;
      }
    }

    /** Takes over all that the days and texts go by; books and spots stay out, as no trial asks them. */
    void takeRoom(Room other) {
      for (int d = 0; d < other.size; d++) {
        drinkers[d].take(other.drinkers[d]);
      }
      size = other.size;
      price = other.price;
      pot = other.pot;
      left = other.left;
      tin = other.tin;
      sign = other.sign;
      last = other.last;
      day = other.day;
      missed = other.missed;
      served = other.served;
      z = other.z;
    }

    void takeAll(Room other) {
      takeRoom(other);
      books.take(other.books);
      System.arraycopy(other.spots, 0, spots, 0, SPOTS);
    }

    /** Asked only where there is room for one more. */
    Drinker addDrinker(int kind, int cups) {
      Drinker one = drinkers[Math.min(size, MOST_DRINKERS - 1)];
      one.begin(kind, cups);
      size = Math.min(size + 1, MOST_DRINKERS);
      return one;
    }

    void setPot(int cups) {
      pot = cups;
      left = cups;
    }

    void beginMonday() {
      day = 0;
      beginWeek();
    }

    int draw() {
      z = z * 1103515245 + 12345;
      return z >>> 8;
    }

    int sumOf(int what) {
      int sum = 0;
      for (int d = 0; d < size; d++) {
        sum += drinkers[d].get(what);
      }
      return sum;
    }

    int due() {
      return price * sumOf(OF_DRUNK);
    }

    int dueOf(int set) {
      int cups = 0;
      for (int d = 0; d < size; d++) {
        if ((set >> d & 1) == 1) {
          cups += drinkers[d].drunk;
        }
      }
      return price * cups;
    }

    int owedBy(int d) {
      return price * drinkers[d].drunk - drinkers[d].paid;
    }

    int drinkersWhoDrank() {
      int found = 0;
      for (int d = 0; d < size; d++) {
        if (drinkers[d].drunk > 0) {
          found++;
        }
      }
      return found;
    }

    int heldSpots() {
      int held = 0;
      for (int spot = 0; spot < SPOTS; spot++) {
        if (spots[spot] != NOBODY) {
          held++;
        }
      }
      return held;
    }

    /** So many DAYS go: what came to THE TIN. */
    int goDays(int n) {
      int before = tin;
      for (int i = 0; i < n; i++) {
        goDay();
      }
      return tin - before;
    }

    private void goDay() {
      for (int d = 0; d < size; d++) {
        if (drinkers[d].limit >= price) {
          serve(drinkers[d]);
        }
      }
      left = pot;
      if (day % WEEK == WEEK - 1) {
        endWeek();
      }
      day++;
    }

    private void serve(Drinker one) {
      for (int cup = 0; cup < one.cups; cup++) {
        if (left == 0 && !isPotMade(one)) {
          missed++;
          return;
        }
        left--;
        served++;
        one.drunk++;
        payCup(one, cup);
      }
    }

    private boolean isPotMade(Drinker one) {
      if (one.kind != MAKER && draw() % 10 >= 3) {
        return false;
      }
      left = pot;
      return true;
    }

    private void payCup(Drinker one, int cup) {
      int coins = price;
      switch (one.kind) {
        case LATER:
          one.debt += price;
          coins = 0;
          break;
        case MAKER:
          one.debt += price / 2;
          coins = 0;
          break;
        case NEVER:
          coins = sign == 2 && cup == 0 ? price : 0;
          break;
        case FORGETS:
          coins = isForgotten() ? 0 : price;
          break;
        case IF:
          coins = last < 50 || isForgotten() ? 0 : price;
          break;
        case TWICE:
          coins = 2 * price;
          break;
        default:
          break;
      }
      pay(one, coins);
    }

    private boolean isForgotten() {
      return draw() % 10 < 4 - 2 * sign;
    }

    /** Pays as far as the purse goes: how much. */
    private int pay(Drinker one, int coins) {
      int paid = Math.min(coins, one.purse);
      one.purse -= paid;
      one.paid += paid;
      tin += paid;
      return paid;
    }

    private void endWeek() {
      for (int d = 0; d < size; d++) {
        Drinker one = drinkers[d];
        if (one.kind == LATER || one.kind == MAKER) {
          one.debt -= pay(one, one.debt);
        }
      }
      // All that comes to the tin is somebody's PAID of this week, the debts just paid too.
      int coins = sumOf(OF_PAID);
      books.put(sumOf(OF_DRUNK), coins);
      int due = due();
      last = due > 0 ? Math.min(coins * 100 / due, MOST_LAST) : 100;
      beginWeek();
    }

    private void beginWeek() {
      for (int d = 0; d < size; d++) {
        drinkers[d].drunk = 0;
        drinkers[d].paid = 0;
      }
    }
  }

  private static final class Sheet {
    final int[] numbers = new int[MOST_NUMBERS];
    /** 0 while it is MISSING. */
    int bits = 0;
    int size = 0;

    boolean isMissing() {
      return bits == 0;
    }

    void begin(int ofBits, int n) {
      bits = ofBits;
      size = n;
      for (int i = 0; i < MOST_NUMBERS; i++) {
        numbers[i] = 0;
      }
    }

    /** The shifts leave the lowest bits, with their sign. */
    void put(int i, int v) {
      int above = 32 - bits;
      numbers[i] = v << above >> above;
    }

    boolean has(int from, int n) {
      return from >= 0 && n >= 0 && from <= size && n <= size - from;
    }
  }

  private static final class Tape {
    final int[] bytes = new int[MOST_BYTES];
    int size = 0;

    void put(int b) {
      if (size < MOST_BYTES) {
        bytes[size] = b;
        size++;
      }
    }
  }

  /** Reads a TEXT token by token; where it stops, the token that it looks at is the FAULT. */
  private static final class TextReader {
    private static final int END = 0;
    private static final int WORD = 1;
    private static final int NUMBER = 2;
    private static final int SEMICOLON = 3;
    private static final int OTHER = 4;
    /** Stands for all numbers that are too great: none may stand anywhere. */
    private static final int TOO_GREAT = 10000;

    final Tape tape;
    /** The token that is looked at: what it is, its first byte and the one behind it. */
    int token = END;
    int start = 0;
    int end = 0;
    int number = 0;
    /** What the latest takeNumber() took. */
    int tookNumber = 0;

    TextReader(Tape ofTape) {
      tape = ofTape;
    }

    /** All ITEMS into a room: how many, or -1 less the FAULT (the room is half changed then). */
    int read(Room room) {
      end = 0;
      for (int items = 1; items <= MOST_BYTES; items++) {
        advance();
        if (!readItem(room)) {
          return -1 - start;
        }
        if (token == END) {
          return items;
        }
        if (token != SEMICOLON) {
          return -1 - start;
        }
      }
      return -1 - start;
    }

    private boolean readItem(Room room) {
      int kind = kindOfWord();
      if (kind >= 0) {
        return room.size < MOST_DRINKERS && readDrinker(room, kind);
      }
      if (takeWord("price")) {
        return readPrice(room);
      }
      if (takeWord("pot")) {
        return readPot(room);
      }
      return takeWord("sign") && readSign(room);
    }

    private boolean readDrinker(Room room, int kind) {
      advance();
      if (!takeNumber(1, MOST_CUPS)) {
        return false;
      }
      Drinker one = room.addDrinker(kind, tookNumber);
      if (takeWord("purse")) {
        if (!takeNumber(0, MOST_PURSE)) {
          return false;
        }
        one.purse = tookNumber;
      }
      if (takeWord("limit")) {
        if (!takeNumber(0, MOST_LIMIT)) {
          return false;
        }
        one.limit = tookNumber;
      }
      return true;
    }

    private boolean readPrice(Room room) {
      if (!takeNumber(0, MOST_PRICE)) {
        return false;
      }
      room.price = tookNumber;
      return true;
    }

    private boolean readPot(Room room) {
      if (!takeNumber(1, MOST_POT)) {
        return false;
      }
      room.setPot(tookNumber);
      return true;
    }

    private boolean readSign(Room room) {
      for (int sign = 0; sign <= MOST_SIGN; sign++) {
        if (takeWord(wordOfSign(sign))) {
          room.sign = sign;
          return true;
        }
      }
      return false;
    }

    private int kindOfWord() {
      for (int kind = 0; kind < KINDS; kind++) {
        if (isWord(wordOfKind(kind))) {
          return kind;
        }
      }
      return -1;
    }

    private boolean takeNumber(int low, int high) {
      if (token != NUMBER || !within(number, low, high)) {
        return false;
      }
      tookNumber = number;
      advance();
      return true;
    }

    private boolean takeWord(String word) {
      if (!isWord(word)) {
        return false;
      }
      advance();
      return true;
    }

    private boolean isWord(String word) {
      if (token != WORD || end - start != word.length()) {
        return false;
      }
      for (int i = 0; i < word.length(); i++) {
        if (byteAt(start + i) != word.charAt(i)) {
          return false;
        }
      }
      return true;
    }

    /** Looks at the next token. */
    private void advance() {
      start = end;
      while (start < tape.size && byteAt(start) == ' ') {
        start++;
      }
      end = start;
      int first = byteAt(start);
      if (first < 0) {
        token = END;
      } else if (isLetter(first)) {
        token = WORD;
        passLetters();
      } else if (isDigit(first)) {
        token = NUMBER;
        passDigits();
      } else {
        token = first == ';' ? SEMICOLON : OTHER;
        end = start + 1;
      }
    }

    private void passLetters() {
      while (end < tape.size && isLetter(byteAt(end))) {
        end++;
      }
    }

    private void passDigits() {
      number = 0;
      while (end < tape.size && isDigit(byteAt(end))) {
        number = Math.min(number * 10 + byteAt(end) - '0', TOO_GREAT);
        end++;
      }
    }

    /** The byte of a place, -1 where there is none. */
    private int byteAt(int place) {
      return place >= 0 && place < tape.size ? tape.bytes[place] : -1;
    }

    private static boolean isLetter(int b) {
      return b >= 'a' && b <= 'z';
    }

    private static boolean isDigit(int b) {
      return b >= '0' && b <= '9';
    }

    private static String wordOfKind(int kind) {
      switch (kind) {
        case EACH:
          return "each";
        case LATER:
          return "later";
        case FORGETS:
          return "forgets";
        case NEVER:
          return "never";
        case IF:
          return "if";
        case TWICE:
          return "twice";
        default:
          return "maker";
      }
    }

    private static String wordOfSign(int sign) {
      switch (sign) {
        case 0:
          return "none";
        case 1:
          return "flowers";
        default:
          return "eyes";
      }
    }
  }
}
