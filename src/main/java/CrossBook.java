/** Who stays away when, in a school of eight children and forty days; ../shared/DOC.md tells each call. */
public final class CrossBook {
  public static final int BAD = -1, FULL = -2, NONE = -3, STATE = -4;

  private static final int NOT_FOUND = -9;
  private static final int NOTHING = -11, OUTSIDE = -12, OTHER_SORT = -13, BELOW_NOTHING = -14, PARTED_BY_NOTHING = -15;

  private static final int CHILDREN = 8, DAYS = 40, HOUSES = 6, WEEK = 5, KINDS = 6;
  private static final int HIGHEST_A = 9, HIGHEST_FAR = 9, HIGHEST_EVENTS = 31, LONGEST_SICK = 20, LONGEST_TRIAL = 20;
  private static final int CHILD = 0, KEPT = 1, ILL = 2, TRUANT = 3, BAREFOOT = 4, CATCHING = 5;
  private static final int PAPER = 1, HERRING = 2, CIRCUS = 4, INSPECTOR = 8, FLOOD = 16;
  private static final int STRONG = 0, LOST = 1, TOUCH = 2, SPELL = 3, LAWS = 4;
  private static final int[] FIRST_LAWS = {5, 11, 2, 3};
  private static final int[] LOWEST_LAWS = {1, 2, 1, 1};
  private static final int[] HIGHEST_LAWS = {20, 30, 8, 20};
  /** The kind that each kind stands under. */
  private static final int[] ABOVE = {-1, CHILD, CHILD, CHILD, KEPT, ILL};
  private static final int SHEETS = 4, SHELVES = 4, LONGEST_SHEET = 40;
  /** What a shelf holds. */
  private static final int HOLDS_CHILD = 0, HOLDS_ROW = 1, HOLDS_NOTHING = 2;
  private static final int AS_ROW = 10, SORTS = 4, BYTES = 0, SHORTS = 1, MISSING = -1;
  private static final int ACTS = 4;

  private final School now = new School();
  private final School kept = new School();
  private boolean isKept = false;
  private final Trial trial = new Trial();
  private final Teller teller = new Teller();
  private final Rows rows = new Rows();
  private final Sheet[] sheets = new Sheet[SHEETS];
  private final Shelf[] shelves = new Shelf[SHELVES];
  private final Thing thing = new Thing();

  public CrossBook() {
    for (int i = 0; i < SHEETS; i++) {
      sheets[i] = new Sheet();
    }
    for (int i = 0; i < SHELVES; i++) {
      shelves[i] = new Shelf();
    }
  }

  // ---- the school

  public int feed(long eight, int n) {
    if (n < 1 || n > 8) {
      return BAD;
    }
    return teller.takeBytes(eight, n) ? teller.size : FULL;
  }

  public int school() {
    int fault = teller.readTape(now);
    if (fault >= 0) {
      return -100 - fault;
    }
    now.copyFrom(teller.told);
    rows.count = 0;
    return now.count;
  }

  public int child(int kind, int a, int house, int far) {
    if (!isKind(kind) || !isA(a) || !isHouse(house) || far < 0 || far > HIGHEST_FAR) {
      return BAD;
    }
    return now.addChild(kind, a, house, far) ? now.count - 1 : FULL;
  }

  public int childOf(int child, int what) {
    return now.hasChild(child) ? now.featureOf(child, what) : BAD;
  }

  public int mind(int child, int kind, int a) {
    if (!now.hasChild(child) || !isKind(kind) || !isA(a)) {
      return BAD;
    }
    int was = now.kind[child];
    now.kind[child] = kind;
    now.a[child] = a;
    return was;
  }

  public int sick(int child, int days) {
    if (!now.hasChild(child) || days < 0 || days > LONGEST_SICK) {
      return BAD;
    }
    int was = now.sick[child];
    now.sick[child] = days;
    return was;
  }

  public int event(int day, int events) {
    if (!isDay(day) || events < 0 || events > HIGHEST_EVENTS) {
      return BAD;
    }
    int was = now.events[day];
    now.events[day] = events;
    return was;
  }

  public int dayOf(int day, int what) {
    if (!isDay(day)) {
      return BAD;
    }
    switch (what) {
      case 0:
        return now.events[day];
      case 1:
        return day % WEEK;
      case 2:
        return now.crosses[day];
      case 3:
        return now.truly[day];
      default:
        return BAD;
    }
  }

  public int set(int law, int v) {
    if (law < 0 || law >= LAWS || v < LOWEST_LAWS[law] || v > HIGHEST_LAWS[law]) {
      return BAD;
    }
    int was = now.laws[law];
    now.laws[law] = v;
    return was;
  }

  public int today() {
    return now.today;
  }

  // ---- days

  public int would(int child) {
    if (!now.hasChild(child)) {
      return BAD;
    }
    if (now.isOver()) {
      return STATE;
    }
    return now.isAway(child) ? 1 : 0;
  }

  public int days(int n) {
    if (n < 0 || n > DAYS) {
      return BAD;
    }
    for (int i = 0; i < n && !now.isOver(); i++) {
      now.goOneDay();
    }
    return now.today;
  }

  public int knock(int house) {
    return isHouse(house) ? now.knockAt(house) : BAD;
  }

  public int write(int day, int child, boolean is) {
    if (!isDay(day) || day >= now.today || !now.hasChild(child)) {
      return BAD;
    }
    int was = now.crosses[day];
    int bit = 1 << child;
    now.crosses[day] = is ? was | bit : was & ~bit;
    return now.crosses[day] != was ? 1 : 0;
  }

  public int marks(int child) {
    if (!now.hasChild(child)) {
      return BAD;
    }
    int sum = 0;
    for (int day = 0; day < DAYS; day++) {
      if (now.hasCross(day, child)) {
        sum++;
      }
    }
    return sum;
  }

  public int wrong(int what) {
    switch (what) {
      case 0:
        return now.falseCrosses();
      case 1:
        return now.lostCrosses();
      case 2:
        return now.firstWrongDay();
      default:
        return BAD;
    }
  }

  public int longest(int child) {
    return now.hasChild(child) ? now.longestWithoutCross(child) : BAD;
  }

  // ---- what will be

  public int there(int n) {
    return isTrial(n) ? trial.thereWith(now, 0, n) : BAD;
  }

  public int round(int k, int n, int what) {
    if (k < 1 || k > 3 || !isTrial(n) || what < 0 || what > 1) {
      return BAD;
    }
    int houses = trial.bestHouses(now, k, n);
    return what == 0 ? houses : trial.thereWith(now, houses, n);
  }

  public int good(int child) {
    return now.hasChild(child) ? trial.dayForGood(now, child) : BAD;
  }

  public int meet(int a, int b, int n) {
    if (!now.hasChild(a) || !now.hasChild(b) || a == b || !isTrial(n)) {
      return BAD;
    }
    return trial.meetings(now, 1 << a | 1 << b, n);
  }

  public int least(int n) {
    return n >= 1 && isTrial(n) ? trial.emptiestDay(now, n) : BAD;
  }

  public int fits(int child) {
    return now.hasChild(child) ? now.kindsByBook(child) : BAD;
  }

  public int seed(int v) {
    int was = now.z;
    now.z = v;
    return was;
  }

  public int draw() {
    // NONE is named ahead of STATE, so a school without children is told first
    if (now.count == 0) {
      return NONE;
    }
    if (now.isOver()) {
      return STATE;
    }
    return now.drawFrom(now.thereToday());
  }

  // ---- rows

  public int prove(int n) {
    if (n < 1 || !isTrial(n)) {
      return BAD;
    }
    trial.writeRows(now, rows, n);
    return rows.count;
  }

  public int row(int i, int what) {
    int place = rows.placeOf(i, what);
    return place < 0 ? NOT_FOUND : rows.cells[place];
  }

  public int alterRow(int i, int what, int v) {
    int place = rows.placeOf(i, what);
    if (place < 0) {
      return NOT_FOUND;
    }
    int was = rows.cells[place];
    rows.cells[place] = v;
    return was;
  }

  public int judge() {
    return trial.firstWrongRow(now, rows) + 1;
  }

  public int events(int sheet, int i, int day, int n) {
    if (!isSheet(sheet) || !isDay(day) || n < 0 || n > DAYS - day) {
      return BAD;
    }
    Sheet from = sheets[sheet];
    int refusal = from.refusalAs(BYTES);
    if (refusal < 0) {
      return refusal;
    }
    if (i < 0 || i > from.length || n > from.length - i) {
      return OUTSIDE;
    }
    for (int k = 0; k < n; k++) {
      now.events[day + k] = (int) from.items[i + k] & HIGHEST_EVENTS;
    }
    return n;
  }

  // ---- the host

  public int sheet(int sheet, int sort, int n) {
    if (!isSheet(sheet) || sort < MISSING || sort >= SORTS) {
      return BAD;
    }
    if (sort != MISSING && n > LONGEST_SHEET) {
      return BAD;
    }
    if (sort != MISSING && n < 0) {
      return BELOW_NOTHING;
    }
    sheets[sheet].becomeRow(sort, sort == MISSING ? 0 : n);
    return 1;
  }

  public int put(int sheet, int i, int v) {
    if (!isSheet(sheet)) {
      return BAD;
    }
    Sheet to = sheets[sheet];
    if (to.sort == MISSING) {
      return NOTHING;
    }
    if (!to.hasItem(i)) {
      return OUTSIDE;
    }
    to.items[i] = to.narrowed(v);
    return 1;
  }

  public int item(int sheet, int sort, int i) {
    if (!isSheet(sheet) || !isSort(sort)) {
      return BAD;
    }
    Sheet from = sheets[sheet];
    int refusal = from.refusalAs(sort);
    if (refusal < 0) {
      return refusal;
    }
    return from.hasItem(i) ? (int) from.items[i] : OUTSIDE;
  }

  public int shelf(int shelf, int what, int n) {
    if (!isShelf(shelf) || what < HOLDS_CHILD || what > HOLDS_NOTHING) {
      return BAD;
    }
    if (what == HOLDS_CHILD && !now.hasChild(n) || what == HOLDS_ROW && !isSheet(n)) {
      return BAD;
    }
    Shelf to = shelves[shelf];
    if (what == HOLDS_CHILD) {
      to.holdChild(n);
    } else if (what == HOLDS_ROW && sheets[n].sort != MISSING) {
      to.holdRow(sheets[n].sort, sheets[n].length);
    } else {
      to.holds = HOLDS_NOTHING;
    }
    return 1;
  }

  public int taken(int shelf, int as) {
    if (!isShelf(shelf) || !isKind(as) && !isSort(as - AS_ROW)) {
      return BAD;
    }
    Shelf from = shelves[shelf];
    if (from.holds == HOLDS_ROW) {
      return from.sort == as - AS_ROW ? from.number : OTHER_SORT;
    }
    if (!holdsChild(from)) {
      return NOTHING;
    }
    return isKind(as) && isUnder(now.kind[from.number], as) ? from.number : OTHER_SORT;
  }

  public int act(int shelf, int act, int x) {
    thing.clearTrace();
    if (!isShelf(shelf) || act < 0 || act >= ACTS || !holdsChild(shelves[shelf])) {
      return 0;
    }
    int child = shelves[shelf].number;
    return thing.answerOf(now.kind[child], child, now.a[child], act, x);
  }

  public int trace(int i) {
    return i >= 0 && i < thing.ran ? thing.trace[i] : NONE;
  }

  public int many(int what) {
    switch (what) {
      case 0:
        return now.count;
      case 1:
        return now.allCrosses();
      case 2:
        return rows.count;
      case 3:
        return teller.size;
      case 4:
        return thing.ran;
      default:
        return BAD;
    }
  }

  // ---- kept

  public int keep() {
    kept.copyFrom(now);
    isKept = true;
    return 1;
  }

  public int again() {
    if (!isKept) {
      return NONE;
    }
    now.copyFrom(kept);
    return now.today;
  }

  private static boolean isKind(int kind) {
    return kind >= 0 && kind < KINDS;
  }

  private static boolean isA(int a) {
    return a >= 0 && a <= HIGHEST_A;
  }

  private static boolean isHouse(int house) {
    return house >= 0 && house < HOUSES;
  }

  private static boolean isDay(int day) {
    return day >= 0 && day < DAYS;
  }

  private static boolean isTrial(int n) {
    return n >= 0 && n <= LONGEST_TRIAL;
  }

  private static boolean isSheet(int sheet) {
    return sheet >= 0 && sheet < SHEETS;
  }

  private static boolean isShelf(int shelf) {
    return shelf >= 0 && shelf < SHELVES;
  }

  private static boolean isSort(int sort) {
    return sort >= 0 && sort < SORTS;
  }

  private static boolean isUnder(int kind, int as) {
    int at = kind;
    // three steps reach the top from any kind
    for (int step = 0; step < 3 && isKind(at); step++) {
      if (at == as) {
        return true;
      }
      at = ABOVE[at];
    }
    return false;
  }

  /** A child is held by its number, which another school may not have. */
  private boolean holdsChild(Shelf shelf) {
    return shelf.holds == HOLDS_CHILD && now.hasChild(shelf.number);
  }

  /** All that is asked to tell whether one child would be away on one day. */
  private static final class Absence {
    int kind, a, far, sick, knock, away;
    int day, events, lost;

    boolean isSo() {
      if ((events & FLOOD) != 0 && far > 5) {
        return true;
      }
      if (knock > 0 || (events & INSPECTOR) != 0) {
        return false;
      }
      int weekday = day % WEEK;
      boolean keptHome = (events & HERRING) != 0 || weekday == a % WEEK;
      boolean paper = (events & PAPER) != 0;
      boolean edgeOfWeek = weekday == 0 || weekday == WEEK - 1;
      switch (kind) {
        case KEPT:
          return keptHome;
        case BAREFOOT:
          return keptHome || (day + a) % 2 == 1;
        case ILL:
          return sick > 0;
        case CATCHING:
          return sick > 0 || paper;
        case TRUANT:
          return paper || (events & CIRCUS) != 0 || a >= 5 && edgeOfWeek || away >= lost;
        default:
          return false;
      }
    }
  }

  /** The children, the days, the laws and the book, as they stand at one time. */
  private static final class School {
    final int[] kind = new int[CHILDREN];
    final int[] a = new int[CHILDREN];
    final int[] house = new int[CHILDREN];
    final int[] far = new int[CHILDREN];
    final int[] sick = new int[CHILDREN];
    final int[] knock = new int[CHILDREN];
    final int[] away = new int[CHILDREN];
    int count = 0;
    final int[] events = new int[DAYS];
    final int[] crosses = new int[DAYS];
    final int[] truly = new int[DAYS];
    final int[] laws = new int[LAWS];
    int today = 0;
    int z = 1;
    private final Absence asked = new Absence();

    School() {
      System.arraycopy(FIRST_LAWS, 0, laws, 0, LAWS);
    }

    void copyFrom(School other) {
      System.arraycopy(other.kind, 0, kind, 0, CHILDREN);
      System.arraycopy(other.a, 0, a, 0, CHILDREN);
      System.arraycopy(other.house, 0, house, 0, CHILDREN);
      System.arraycopy(other.far, 0, far, 0, CHILDREN);
      System.arraycopy(other.sick, 0, sick, 0, CHILDREN);
      System.arraycopy(other.knock, 0, knock, 0, CHILDREN);
      System.arraycopy(other.away, 0, away, 0, CHILDREN);
      count = other.count;
      System.arraycopy(other.events, 0, events, 0, DAYS);
      System.arraycopy(other.crosses, 0, crosses, 0, DAYS);
      System.arraycopy(other.truly, 0, truly, 0, DAYS);
      System.arraycopy(other.laws, 0, laws, 0, LAWS);
      today = other.today;
      z = other.z;
    }

    /** A told school begins so: only laws and z go over from the school before it. */
    void becomeEmptyAfter(School other) {
      count = 0;
      for (int day = 0; day < DAYS; day++) {
        events[day] = 0;
        crosses[day] = 0;
        truly[day] = 0;
      }
      System.arraycopy(other.laws, 0, laws, 0, LAWS);
      today = 0;
      z = other.z;
    }

    boolean hasChild(int child) {
      return child >= 0 && child < count;
    }

    boolean addChild(int itsKind, int itsA, int itsHouse, int itsFar) {
      if (count >= CHILDREN) {
        return false;
      }
      kind[count] = itsKind;
      a[count] = itsA;
      house[count] = itsHouse;
      far[count] = itsFar;
      sick[count] = 0;
      knock[count] = 0;
      away[count] = 0;
      count++;
      return true;
    }

    int featureOf(int child, int what) {
      switch (what) {
        case 0:
          return kind[child];
        case 1:
          return a[child];
        case 2:
          return house[child];
        case 3:
          return far[child];
        case 4:
          return sick[child];
        case 5:
          return knock[child];
        case 6:
          return away[child];
        default:
          return BAD;
      }
    }

    /** Whether no day is left. */
    boolean isOver() {
      return today >= DAYS;
    }

    boolean isAway(int child) {
      if (isOver()) {
        return false;
      }
      asked.kind = kind[child];
      asked.a = a[child];
      asked.far = far[child];
      asked.sick = sick[child];
      asked.knock = knock[child];
      asked.away = away[child];
      asked.day = today;
      asked.events = events[today];
      asked.lost = laws[LOST];
      return asked.isSo();
    }

    int thereToday() {
      int there = 0;
      for (int child = 0; child < count; child++) {
        if (!isAway(child)) {
          there |= 1 << child;
        }
      }
      return there;
    }

    int sickNow() {
      int ill = 0;
      for (int child = 0; child < count; child++) {
        if (sick[child] > 0) {
          ill |= 1 << child;
        }
      }
      return ill;
    }

    /** Answers who were there. */
    int goOneDay() {
      if (isOver()) {
        return 0;
      }
      int there = thereToday();
      int sickAhead = sickNow();
      crosses[today] = there;
      truly[today] = there;
      for (int child = 0; child < count; child++) {
        away[child] = (there >> child & 1) != 0 ? 0 : away[child] + 1;
        sick[child] = Math.max(0, sick[child] - 1);
        knock[child] = Math.max(0, knock[child] - 1);
      }
      spreadFrom(sickAhead);
      today++;
      return there;
    }

    private void spreadFrom(int sickAhead) {
      for (int child = 0; child < count; child++) {
        if (kind[child] == CATCHING && sick[child] == 0 && isTouched(child, sickAhead)) {
          sick[child] = laws[SPELL];
        }
      }
    }

    private boolean isTouched(int child, int sickAhead) {
      int inHouse = 0;
      int inAll = 0;
      for (int other = 0; other < count; other++) {
        if (other != child && (sickAhead >> other & 1) != 0) {
          inAll++;
          if (house[other] == house[child]) {
            inHouse++;
          }
        }
      }
      return inHouse >= laws[TOUCH] || inAll >= 4;
    }

    /** Answers how many children are in the house. */
    int knockAt(int door) {
      int inHouse = 0;
      for (int child = 0; child < count; child++) {
        if (house[child] == door) {
          knock[child] = laws[STRONG];
          inHouse++;
        }
      }
      return inHouse;
    }

    boolean hasCross(int day, int child) {
      return (crosses[day] >> child & 1) != 0;
    }

    int allCrosses() {
      int sum = 0;
      for (int day = 0; day < DAYS; day++) {
        sum += Integer.bitCount(crosses[day]);
      }
      return sum;
    }

    int falseCrosses() {
      int sum = 0;
      for (int day = 0; day < DAYS; day++) {
        sum += Integer.bitCount(crosses[day] & ~truly[day]);
      }
      return sum;
    }

    int lostCrosses() {
      int sum = 0;
      for (int day = 0; day < DAYS; day++) {
        sum += Integer.bitCount(truly[day] & ~crosses[day]);
      }
      return sum;
    }

    int firstWrongDay() {
      for (int day = 0; day < DAYS; day++) {
        if (crosses[day] != truly[day]) {
          return day;
        }
      }
      return NOT_FOUND;
    }

    int longestWithoutCross(int child) {
      int most = 0;
      int run = 0;
      for (int day = 0; day < today && day < DAYS; day++) {
        run = hasCross(day, child) ? 0 : run + 1;
        most = Math.max(most, run);
      }
      return most;
    }

    int kindsByBook(int child) {
      int kinds = 0;
      for (int as = 0; as < KINDS; as++) {
        for (int withA = 0; withA <= HIGHEST_A; withA++) {
          if (bookFits(child, as, withA)) {
            kinds |= 1 << as;
          }
        }
      }
      return kinds;
    }

    private boolean bookFits(int child, int as, int withA) {
      boolean maybeSick = as == ILL || as == CATCHING;
      asked.kind = as;
      asked.a = withA;
      asked.far = far[child];
      asked.sick = 0;
      asked.knock = 0;
      asked.lost = laws[LOST];
      int run = 0;
      for (int day = 0; day < today && day < DAYS; day++) {
        boolean cross = hasCross(day, child);
        asked.day = day;
        asked.events = events[day];
        asked.away = run;
        if (cross == asked.isSo() && (cross || !maybeSick)) {
          return false;
        }
        run = cross ? 0 : run + 1;
      }
      return true;
    }

    /** Answers the child that is drawn from a set of children; z goes on just if there is one. */
    int drawFrom(int there) {
      int size = Integer.bitCount(there);
      if (size <= 0) {
        return NONE;
      }
      z = z * 1103515245 + 12345;
      int left = (z >>> 16) % size;
      for (int child = 0; child < count; child++) {
        if ((there >> child & 1) != 0) {
          if (left == 0) {
            return child;
          }
          left--;
        }
      }
      return NONE;
    }
  }

  /** Days that are tried on a copy, so that the school itself stays as it is. */
  private static final class Trial {
    private final School ahead = new School();

    /** How many crosses truly come, with a knock at each of a set of houses first. */
    int thereWith(School now, int houses, int n) {
      ahead.copyFrom(now);
      for (int house = 0; house < HOUSES; house++) {
        if ((houses >> house & 1) != 0) {
          ahead.knockAt(house);
        }
      }
      int sum = 0;
      for (int i = 0; i < n && !ahead.isOver(); i++) {
        sum += Integer.bitCount(ahead.goOneDay());
      }
      return sum;
    }

    int bestHouses(School now, int k, int n) {
      int best = 0;
      int most = thereWith(now, 0, n);
      for (int houses = 1; houses < 1 << HOUSES; houses++) {
        if (Integer.bitCount(houses) <= k) {
          int there = thereWith(now, houses, n);
          if (there > most || there == most && Integer.bitCount(houses) < Integer.bitCount(best)) {
            best = houses;
            most = there;
          }
        }
      }
      return best;
    }

    int dayForGood(School now, int child) {
      ahead.copyFrom(now);
      for (int i = 0; i <= DAYS; i++) {
        if (ahead.away[child] >= ahead.laws[LOST]) {
          return ahead.today - 1;
        }
        ahead.goOneDay();
      }
      return NONE;
    }

    /** On how many days all of a set of children are there. */
    int meetings(School now, int children, int n) {
      ahead.copyFrom(now);
      int sum = 0;
      for (int i = 0; i < n && !ahead.isOver(); i++) {
        if ((ahead.goOneDay() & children) == children) {
          sum++;
        }
      }
      return sum;
    }

    int emptiestDay(School now, int n) {
      ahead.copyFrom(now);
      int best = NONE;
      int fewest = CHILDREN + 1;
      for (int i = 0; i < n && !ahead.isOver(); i++) {
        int there = Integer.bitCount(ahead.goOneDay());
        if (there < fewest) {
          fewest = there;
          best = ahead.today - 1;
        }
      }
      return best;
    }

    void writeRows(School now, Rows rows, int n) {
      ahead.copyFrom(now);
      rows.count = 0;
      for (int i = 0; i < n && !ahead.isOver(); i++) {
        int there = ahead.goOneDay();
        rows.addRow(ahead.today - 1, there, ahead.sickNow());
      }
    }

    /** Answers -1 if no row is wrong. */
    int firstWrongRow(School now, Rows rows) {
      ahead.copyFrom(now);
      for (int i = 0; i < rows.count; i++) {
        if (ahead.isOver()) {
          return i;
        }
        int there = ahead.goOneDay();
        if (!rows.isRow(i, ahead.today - 1, there, ahead.sickNow())) {
          return i;
        }
      }
      return -1;
    }
  }

  /** Rows of three numbers: a day, who are there, who are sick behind it. */
  private static final class Rows {
    private static final int MOST = LONGEST_TRIAL, WIDTH = 3;
    final int[] cells = new int[MOST * WIDTH];
    int count = 0;

    /** Answers -1 if there is no such cell. */
    int placeOf(int i, int what) {
      return i >= 0 && i < count && what >= 0 && what < WIDTH ? i * WIDTH + what : -1;
    }

    void addRow(int day, int there, int sick) {
      if (count < MOST) {
        cells[count * WIDTH] = day;
        cells[count * WIDTH + 1] = there;
        cells[count * WIDTH + 2] = sick;
        count++;
      }
    }

    boolean isRow(int i, int day, int there, int sick) {
      int place = placeOf(i, 0);
      return place >= 0 && cells[place] == day && cells[place + 1] == there && cells[place + 2] == sick;
    }
  }

  /** The tape, and the reader of the school that it tells. */
  private static final class Teller {
    private static final int LONGEST = 240;
    /** Words beside those of the kinds, which have the numbers of the kinds. */
    private static final int IN = 6, FAR = 7, DAY = 8, SICK = 9, TODAY = 10, STRONG_IS = 11, LOST_IS = 12, WORDS = 13;
    private final byte[] tape = new byte[LONGEST];
    int size = 0;
    final School told = new School();
    private int at = 0;
    /** Where the name or number began that was read last. */
    private int mark = 0;
    private int fault = -1;

    boolean takeBytes(long eight, int n) {
      if (n > LONGEST - size) {
        return false;
      }
      for (int i = 0; i < n; i++) {
        tape[size] = (byte) (eight >> 8 * i);
        size++;
      }
      return true;
    }

    /** Uses the tape up; answers the place of its fault, -1 if it has none and all of it is told. */
    int readTape(School before) {
      told.becomeEmptyAfter(before);
      at = 0;
      fault = -1;
      skipBlanks();
      // each item takes at least one byte, or is a fault
      for (int i = 0; i < LONGEST && at < size && fault < 0; i++) {
        readItem();
        skipBlanks();
      }
      size = 0;
      return fault;
    }

    private void readItem() {
      int word = nextWord();
      switch (word) {
        case DAY:
          readDay();
          break;
        case SICK:
          readSick();
          break;
        case TODAY:
          told.today = nextNumber(0, DAYS);
          break;
        case STRONG_IS:
          told.laws[STRONG] = nextNumber(LOWEST_LAWS[STRONG], HIGHEST_LAWS[STRONG]);
          break;
        case LOST_IS:
          told.laws[LOST] = nextNumber(LOWEST_LAWS[LOST], HIGHEST_LAWS[LOST]);
          break;
        default:
          readChild(word);
      }
      skipBlanks();
      if (at < size && tape[at] == ';') {
        at++;
      } else {
        failAt(at);
      }
    }

    private void readDay() {
      int day = nextNumber(0, DAYS - 1);
      int itsEvents = nextNumber(0, HIGHEST_EVENTS);
      if (fault < 0) {
        told.events[day] = itsEvents;
      }
    }

    private void readSick() {
      int child = nextNumber(0, told.count - 1);
      int itsDays = nextNumber(0, LONGEST_SICK);
      if (fault < 0) {
        told.sick[child] = itsDays;
      }
    }

    private void readChild(int word) {
      if (!isKind(word) || told.count >= CHILDREN) {
        failAt(mark);
        return;
      }
      int a = nextNumber(0, HIGHEST_A);
      if (nextWord() != IN) {
        failAt(mark);
      }
      int house = nextNumber(0, HOUSES - 1);
      skipBlanks();
      int far = 0;
      if (at < size && isLetter(tape[at])) {
        if (nextWord() != FAR) {
          failAt(mark);
        }
        far = nextNumber(0, HIGHEST_FAR);
      }
      if (fault < 0) {
        told.addChild(word, a, house, far);
      }
    }

    private void failAt(int place) {
      if (fault < 0) {
        fault = place;
      }
    }

    private void skipBlanks() {
      while (at < size && tape[at] == ' ') {
        at++;
      }
    }

    /** Answers 0 after a fault. */
    private int nextNumber(int lowest, int highest) {
      skipBlanks();
      mark = at;
      int value = 0;
      while (at < size && tape[at] >= '0' && tape[at] <= '9') {
        value = value * 10 + (tape[at] - '0');
        at++;
      }
      // the count of digits is looked at first, as a long row of them wraps
      if (at == mark || at > mark + 2 || value < lowest || value > highest) {
        failAt(mark);
      }
      return fault < 0 ? value : 0;
    }

    /** Answers -1 for a name that is no word, and for no name. */
    private int nextWord() {
      skipBlanks();
      mark = at;
      while (at < size && isLetter(tape[at])) {
        at++;
      }
      for (int word = 0; word < WORDS; word++) {
        if (isMarked(nameOf(word))) {
          return word;
        }
      }
      return -1;
    }

    private boolean isMarked(String name) {
      int length = name.length();
      if (at - mark != length) {
        return false;
      }
      for (int i = 0; i < length; i++) {
        if (tape[mark + i] != name.charAt(i)) {
          return false;
        }
      }
      return true;
    }

    private static boolean isLetter(byte sign) {
      return sign >= 'a' && sign <= 'z';
    }

    private static String nameOf(int word) {
      switch (word) {
        case CHILD:
          return "child";
        case KEPT:
          return "kept";
        case ILL:
          return "ill";
        case TRUANT:
          return "truant";
        case BAREFOOT:
          return "barefoot";
        case CATCHING:
          return "catching";
        case IN:
          return "in";
        case FAR:
          return "far";
        case DAY:
          return "day";
        case SICK:
          return "sick";
        case TODAY:
          return "today";
        case STRONG_IS:
          return "strong";
        default:
          return "lost";
      }
    }
  }

  /** A row of numbers of one sort, or none. */
  private static final class Sheet {
    int sort = MISSING;
    int length = 0;
    final long[] items = new long[LONGEST_SHEET];

    void becomeRow(int itsSort, int itsLength) {
      sort = itsSort;
      length = itsLength;
      for (int i = 0; i < LONGEST_SHEET; i++) {
        items[i] = 0;
      }
    }

    boolean hasItem(int i) {
      return i >= 0 && i < length;
    }

    /** Answers 0 if it can be taken for a row of this sort. */
    int refusalAs(int asSort) {
      if (sort == MISSING) {
        return NOTHING;
      }
      return sort == asSort ? 0 : OTHER_SORT;
    }

    long narrowed(int v) {
      switch (sort) {
        case BYTES:
          return (byte) v;
        case SHORTS:
          return (short) v;
        default:
          return v;
      }
    }
  }

  /** A place for one thing; a row stays on it as it was, also when its sheet becomes another. */
  private static final class Shelf {
    int holds = HOLDS_NOTHING;
    /** Of a child its number, of a row how many items. */
    int number = 0;
    int sort = 0;

    void holdChild(int child) {
      holds = HOLDS_CHILD;
      number = child;
    }

    void holdRow(int itsSort, int itsLength) {
      holds = HOLDS_ROW;
      number = itsLength;
      sort = itsSort;
    }
  }

  /** A child held as a thing of its kind: its acts, and the trace of their bodies. */
  private static final class Thing {
    private static final int KNOCKS = 0, CROSSES = 1, SHARES = 2, TELLS = 3;
    /** The body that each kind has of its own for each act, 0 where it has that of the kind above. */
    private static final int[] BODIES = {
      10, 11, 12, 13,
      0, 20, 0, 0,
      30, 0, 0, 31,
      0, 0, 61, 60,
      51, 0, 50, 0,
      40, 41, 0, 0
    };
    private static final int LONGEST_TRACE = 30, DEEPEST = 30;
    final int[] trace = new int[LONGEST_TRACE];
    int ran = 0;
    private int kind = CHILD, n = 0, a = 0;
    private boolean isParted = false;

    void clearTrace() {
      ran = 0;
      isParted = false;
    }

    int answerOf(int itsKind, int itsNumber, int itsA, int act, int x) {
      kind = itsKind;
      n = itsNumber;
      a = itsA;
      int answer = runAct(act, kind, x, 0);
      return isParted ? PARTED_BY_NOTHING : answer;
    }

    /** Runs the body of an act that a kind has or takes from above; none begins once one has parted by 0. */
    private int runAct(int act, int from, int x, int depth) {
      if (isParted || depth > DEEPEST) {
        return 0;
      }
      int body = bodyOf(act, from);
      if (ran < LONGEST_TRACE) {
        trace[ran] = body;
        ran++;
      }
      return runBody(body, x, depth + 1);
    }

    private static int bodyOf(int act, int from) {
      int at = from;
      // three steps reach the top from any kind
      for (int step = 0; step < 3 && isKind(at); step++) {
        int place = at * ACTS + act;
        if (place >= 0 && place < BODIES.length && BODIES[place] != 0) {
          return BODIES[place];
        }
        at = ABOVE[at];
      }
      return 0;
    }

    private int runBody(int body, int x, int depth) {
      switch (body) {
        case 10:
          return x + n;
        case 11:
          return runAct(KNOCKS, kind, x, depth) * 2;
        case 12:
          return shared(x);
        case 13:
          return runAct(CROSSES, kind, x, depth) ^ a;
        case 20:
          return runAct(CROSSES, ABOVE[KEPT], x, depth) - a;
        case 30:
          return runAct(KNOCKS, ABOVE[ILL], x, depth) * 3;
        case 31:
          return runAct(TELLS, ABOVE[ILL], x, depth) + runAct(SHARES, kind, n, depth);
        case 40:
          return 0 - runAct(KNOCKS, ABOVE[CATCHING], x, depth);
        case 41:
          return runAct(CROSSES, ABOVE[CATCHING], x, depth) + runAct(KNOCKS, kind, n, depth);
        case 50:
          return runAct(SHARES, ABOVE[BAREFOOT], x + 2, depth) ^ 1;
        case 51:
          return runAct(KNOCKS, ABOVE[BAREFOOT], x, depth) - n;
        case 60:
          return runAct(TELLS, ABOVE[TRUANT], x, depth) * 2;
        case 61:
          return runAct(SHARES, ABOVE[TRUANT], x, depth) + runAct(KNOCKS, kind, a, depth);
        default:
          return 0;
      }
    }

    private int shared(int x) {
      int by = a - n;
      if (by == 0) {
        isParted = true;
        return 0;
      }
      return x / by;
    }
  }
}
