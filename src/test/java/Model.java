import java.util.ArrayList;
import java.util.List;
import java.util.TreeSet;

/** The document once more, in other words than the program's: slow, with sets and maps, to compare long runs with. */
final class Model {
  static final class Kid {
    int kind, a, house, far, sick, knock, away;

    Kid copy() {
      Kid k = new Kid();
      k.kind = kind;
      k.a = a;
      k.house = house;
      k.far = far;
      k.sick = sick;
      k.knock = knock;
      k.away = away;
      return k;
    }
  }

  /** Crosses are told as texts "day child". */
  static final class State {
    List<Kid> kids = new ArrayList<>();
    int[] events = new int[40];
    TreeSet<String> crosses = new TreeSet<>();
    TreeSet<String> truly = new TreeSet<>();
    int[] laws = {5, 11, 2, 3};
    int today = 0;
    int z = 1;

    State copy() {
      State s = new State();
      for (Kid k : kids) {
        s.kids.add(k.copy());
      }
      s.events = events.clone();
      s.crosses.addAll(crosses);
      s.truly.addAll(truly);
      s.laws = laws.clone();
      s.today = today;
      s.z = z;
      return s;
    }

    boolean kid(int i) {
      return i >= 0 && i < kids.size();
    }
  }

  State now = new State();
  State kept = null;
  StringBuilder tape = new StringBuilder();
  List<int[]> rows = new ArrayList<>();
  long[][] sheets = new long[4][];
  int[] sorts = new int[4];
  Object[] shelves = new Object[4];
  List<Integer> trace = new ArrayList<>();

  static boolean in(int v, int low, int high) {
    return low <= v && v <= high;
  }

  static boolean away(int kind, int a, int far, int sick, int knock, int away, int day, int events, int lost) {
    boolean flood = (events >> 4 & 1) == 1 && far > 5;
    if (knock > 0 || (events >> 3 & 1) == 1) {
      return flood;
    }
    boolean kept = flood || (events >> 1 & 1) == 1 || day % 5 == a % 5;
    boolean ill = flood || sick > 0;
    boolean paper = events % 2 == 1;
    boolean circus = (events >> 2 & 1) == 1;
    boolean[] all = {
      flood, kept, ill, flood || paper || circus || (a >= 5 && (day % 5 == 0 || day % 5 == 4)) || away >= lost,
      kept || (day + a) % 2 == 1, ill || paper
    };
    return all[kind];
  }

  static boolean away(State s, Kid k) {
    return away(k.kind, k.a, k.far, k.sick, k.knock, k.away, s.today, s.events[s.today], s.laws[1]);
  }

  static List<Integer> there(State s) {
    List<Integer> set = new ArrayList<>();
    for (int i = 0; i < s.kids.size(); i++) {
      if (!away(s, s.kids.get(i))) {
        set.add(i);
      }
    }
    return set;
  }

  static int bits(List<Integer> set) {
    int b = 0;
    for (int i : set) {
      b += 1 << i;
    }
    return b;
  }

  static List<Integer> sick(State s) {
    List<Integer> set = new ArrayList<>();
    for (int i = 0; i < s.kids.size(); i++) {
      if (s.kids.get(i).sick > 0) {
        set.add(i);
      }
    }
    return set;
  }

  static List<Integer> go(State s) {
    List<Integer> there = there(s);
    List<Integer> ill = sick(s);
    for (int i = 0; i < s.kids.size(); i++) {
      Kid k = s.kids.get(i);
      if (there.contains(i)) {
        s.crosses.add(s.today + " " + i);
        s.truly.add(s.today + " " + i);
        k.away = 0;
      } else {
        k.away++;
      }
      k.sick -= k.sick > 0 ? 1 : 0;
      k.knock -= k.knock > 0 ? 1 : 0;
    }
    for (int i = 0; i < s.kids.size(); i++) {
      Kid k = s.kids.get(i);
      int near = 0;
      int others = 0;
      for (int o : ill) {
        others += o == i ? 0 : 1;
        near += o != i && s.kids.get(o).house == k.house ? 1 : 0;
      }
      if (k.kind == 5 && k.sick == 0 && (near >= s.laws[2] || others >= 4)) {
        k.sick = s.laws[3];
      }
    }
    s.today++;
    return there;
  }

  int feed(long eight, int n) {
    if (!in(n, 1, 8)) {
      return -1;
    }
    if (tape.length() + n > 240) {
      return -2;
    }
    for (int i = 0; i < n; i++) {
      tape.append((char) (eight >>> 8 * i & 255));
    }
    return tape.length();
  }

  // the text, as a list of words with their places

  int school() {
    String text = tape.toString();
    tape.setLength(0);
    List<String> words = new ArrayList<>();
    List<Integer> places = new ArrayList<>();
    java.util.regex.Matcher m = java.util.regex.Pattern.compile("[a-z]+|[0-9]+|[^ ]", java.util.regex.Pattern.DOTALL).matcher(text);
    while (m.find()) {
      words.add(m.group());
      places.add(m.start());
    }
    places.add(text.length());
    State s = new State();
    s.laws = now.laws.clone();
    s.z = now.z;
    int ok = told(words, s);
    if (ok < words.size() || ok > 1000) {
      return -100 - places.get(ok % 1000);
    }
    now = s;
    rows.clear();
    return s.kids.size();
  }

  private static final List<String> KINDS = List.of("child", "kept", "ill", "truant", "barefoot", "catching");

  /** Answers how many words stand; 1000 more if then more must come. */
  private static int told(List<String> words, State s) {
    int at = 0;
    while (at < words.size()) {
      String first = words.get(at);
      int kind = KINDS.indexOf(first);
      List<int[]> ranges = new ArrayList<>();
      if (kind >= 0 && s.kids.size() < 8) {
        ranges.add(new int[] {0, 9});
        ranges.add(null);
        ranges.add(new int[] {0, 5});
        if (at + 4 < words.size() && words.get(at + 4).matches("[a-z]+")) {
          ranges.add(null);
          ranges.add(new int[] {0, 9});
        }
      } else if (first.equals("day")) {
        ranges.add(new int[] {0, 39});
        ranges.add(new int[] {0, 31});
      } else if (first.equals("sick")) {
        ranges.add(new int[] {0, s.kids.size() - 1});
        ranges.add(new int[] {0, 20});
      } else if (first.equals("today")) {
        ranges.add(new int[] {0, 40});
      } else if (first.equals("strong")) {
        ranges.add(new int[] {1, 20});
      } else if (first.equals("lost")) {
        ranges.add(new int[] {2, 30});
      } else {
        return at;
      }
      List<Integer> numbers = new ArrayList<>();
      int names = 0;
      for (int i = 0; i < ranges.size(); i++) {
        int place = at + 1 + i;
        if (place >= words.size()) {
          return 1000 + place;
        }
        String w = words.get(place);
        int[] range = ranges.get(i);
        if (range == null) {
          if (!w.equals(names++ == 0 ? "in" : "far")) {
            return place;
          }
        } else {
          if (!w.matches("[0-9]{1,2}") || !in(Integer.parseInt(w), range[0], range[1])) {
            return place;
          }
          numbers.add(Integer.parseInt(w));
        }
      }
      at += 1 + ranges.size();
      if (at >= words.size()) {
        return 1000 + at;
      }
      if (!words.get(at).equals(";")) {
        return at;
      }
      at++;
      apply(first, kind, numbers, s);
    }
    return at;
  }

  private static void apply(String first, int kind, List<Integer> n, State s) {
    if (kind >= 0) {
      Kid k = new Kid();
      k.kind = kind;
      k.a = n.get(0);
      k.house = n.get(1);
      k.far = n.size() > 2 ? n.get(2) : 0;
      s.kids.add(k);
    } else if (first.equals("day")) {
      s.events[n.get(0)] = n.get(1);
    } else if (first.equals("sick")) {
      s.kids.get(n.get(0)).sick = n.get(1);
    } else if (first.equals("today")) {
      s.today = n.get(0);
    } else {
      s.laws[first.equals("strong") ? 0 : 1] = n.get(0);
    }
  }

  int child(int kind, int a, int house, int far) {
    if (!in(kind, 0, 5) || !in(a, 0, 9) || !in(house, 0, 5) || !in(far, 0, 9)) {
      return -1;
    }
    if (now.kids.size() == 8) {
      return -2;
    }
    Kid k = new Kid();
    k.kind = kind;
    k.a = a;
    k.house = house;
    k.far = far;
    now.kids.add(k);
    return now.kids.size() - 1;
  }

  int childOf(int child, int what) {
    if (!now.kid(child) || !in(what, 0, 6)) {
      return -1;
    }
    Kid k = now.kids.get(child);
    return new int[] {k.kind, k.a, k.house, k.far, k.sick, k.knock, k.away}[what];
  }

  int mind(int child, int kind, int a) {
    if (!now.kid(child) || !in(kind, 0, 5) || !in(a, 0, 9)) {
      return -1;
    }
    Kid k = now.kids.get(child);
    int was = k.kind;
    k.kind = kind;
    k.a = a;
    return was;
  }

  int sick(int child, int days) {
    if (!now.kid(child) || !in(days, 0, 20)) {
      return -1;
    }
    int was = now.kids.get(child).sick;
    now.kids.get(child).sick = days;
    return was;
  }

  int event(int day, int events) {
    if (!in(day, 0, 39) || !in(events, 0, 31)) {
      return -1;
    }
    int was = now.events[day];
    now.events[day] = events;
    return was;
  }

  int ofDay(TreeSet<String> set, int day) {
    int b = 0;
    for (int i = 0; i < 8; i++) {
      b += set.contains(day + " " + i) ? 1 << i : 0;
    }
    return b;
  }

  int dayOf(int day, int what) {
    if (!in(day, 0, 39) || !in(what, 0, 3)) {
      return -1;
    }
    return new int[] {now.events[day], day % 5, ofDay(now.crosses, day), ofDay(now.truly, day)}[what];
  }

  int set(int law, int v) {
    if (!in(law, 0, 3)) {
      return -1;
    }
    if (!in(v, new int[] {1, 2, 1, 1}[law], new int[] {20, 30, 8, 20}[law])) {
      return -1;
    }
    int was = now.laws[law];
    now.laws[law] = v;
    return was;
  }

  int would(int child) {
    if (!now.kid(child)) {
      return -1;
    }
    return now.today == 40 ? -4 : away(now, now.kids.get(child)) ? 1 : 0;
  }

  int days(int n) {
    if (!in(n, 0, 40)) {
      return -1;
    }
    for (int left = Math.min(n, 40 - now.today); left > 0; left--) {
      go(now);
    }
    return now.today;
  }

  static int knock(State s, int house) {
    int n = 0;
    for (Kid k : s.kids) {
      if (k.house == house) {
        k.knock = s.laws[0];
        n++;
      }
    }
    return n;
  }

  int knock(int house) {
    return in(house, 0, 5) ? knock(now, house) : -1;
  }

  int write(int day, int child, boolean is) {
    if (!in(day, 0, now.today - 1) || !now.kid(child)) {
      return -1;
    }
    String c = day + " " + child;
    return (is ? now.crosses.add(c) : now.crosses.remove(c)) ? 1 : 0;
  }

  int marks(int child) {
    if (!now.kid(child)) {
      return -1;
    }
    int n = 0;
    for (String c : now.crosses) {
      n += c.endsWith(" " + child) ? 1 : 0;
    }
    return n;
  }

  int wrong(int what) {
    if (!in(what, 0, 2)) {
      return -1;
    }
    TreeSet<String> falseOnes = new TreeSet<>(now.crosses);
    falseOnes.removeAll(now.truly);
    TreeSet<String> lost = new TreeSet<>(now.truly);
    lost.removeAll(now.crosses);
    int first = 99;
    for (TreeSet<String> set : List.of(falseOnes, lost)) {
      for (String c : set) {
        first = Math.min(first, Integer.parseInt(c.substring(0, c.indexOf(' '))));
      }
    }
    return new int[] {falseOnes.size(), lost.size(), first == 99 ? -9 : first}[what];
  }

  int longest(int child) {
    if (!now.kid(child)) {
      return -1;
    }
    int most = 0;
    for (int from = 0; from < now.today; from++) {
      int to = from;
      while (to < now.today && !now.crosses.contains(to + " " + child)) {
        to++;
      }
      most = Math.max(most, to - from);
    }
    return most;
  }

  static int sum(State from, int houses, int n) {
    State s = from.copy();
    for (int h = 0; h < 6; h++) {
      if ((houses & 1 << h) != 0) {
        knock(s, h);
      }
    }
    int before = s.truly.size();
    for (int i = 0; i < n; i++) {
      if (s.today < 40) {
        go(s);
      }
    }
    return s.truly.size() - before;
  }

  int there(int n) {
    return in(n, 0, 20) ? sum(now, 0, n) : -1;
  }

  int round(int k, int n, int what) {
    if (!in(k, 1, 3) || !in(n, 0, 20) || !in(what, 0, 1)) {
      return -1;
    }
    int best = -1;
    int most = -1;
    for (int size = 0; size <= k; size++) {
      for (int set = 0; set < 64; set++) {
        if (Integer.bitCount(set) == size) {
          int s = sum(now, set, n);
          if (s > most) {
            most = s;
            best = set;
          }
        }
      }
    }
    return what == 0 ? best : most;
  }

  int good(int child) {
    if (!now.kid(child)) {
      return -1;
    }
    State s = now.copy();
    while (true) {
      if (s.kids.get(child).away >= s.laws[1]) {
        return s.today - 1;
      }
      if (s.today == 40) {
        return -3;
      }
      go(s);
    }
  }

  int meet(int a, int b, int n) {
    if (!now.kid(a) || !now.kid(b) || a == b || !in(n, 0, 20)) {
      return -1;
    }
    State s = now.copy();
    int times = 0;
    for (int i = 0; i < n && s.today < 40; i++) {
      List<Integer> there = go(s);
      times += there.contains(a) && there.contains(b) ? 1 : 0;
    }
    return times;
  }

  int least(int n) {
    if (!in(n, 1, 20)) {
      return -1;
    }
    State s = now.copy();
    int day = -3;
    int fewest = 99;
    for (int i = 0; i < n && s.today < 40; i++) {
      int size = go(s).size();
      if (size < fewest) {
        fewest = size;
        day = s.today - 1;
      }
    }
    return day;
  }

  int fits(int child) {
    if (!now.kid(child)) {
      return -1;
    }
    int set = 0;
    for (int kind = 0; kind < 6; kind++) {
      boolean some = false;
      for (int a = 0; a < 10; a++) {
        boolean all = true;
        for (int day = 0; day < now.today; day++) {
          boolean cross = now.crosses.contains(day + " " + child);
          int gone = 0;
          while (gone < day && !now.crosses.contains((day - 1 - gone) + " " + child)) {
            gone++;
          }
          boolean away = away(kind, a, now.kids.get(child).far, 0, 0, gone, day, now.events[day], now.laws[1]);
          boolean free = !cross && (kind == 2 || kind == 5);
          all = all && (free || cross == !away);
        }
        some = some || all;
      }
      set += some ? 1 << kind : 0;
    }
    return set;
  }

  int seed(int v) {
    int was = now.z;
    now.z = v;
    return was;
  }

  int draw() {
    if (now.kids.isEmpty()) {
      return -3;
    }
    if (now.today == 40) {
      return -4;
    }
    List<Integer> there = there(now);
    if (there.isEmpty()) {
      return -3;
    }
    now.z = (int) (now.z * 1103515245L + 12345L);
    return there.get((now.z >>> 16) % there.size());
  }

  int prove(int n) {
    if (!in(n, 1, 20)) {
      return -1;
    }
    rows = proof(n);
    return rows.size();
  }

  private List<int[]> proof(int n) {
    List<int[]> list = new ArrayList<>();
    State s = now.copy();
    while (list.size() < n && s.today < 40) {
      int day = s.today;
      int there = bits(go(s));
      list.add(new int[] {day, there, bits(sick(s))});
    }
    return list;
  }

  int row(int i, int what) {
    return in(i, 0, rows.size() - 1) && in(what, 0, 2) ? rows.get(i)[what] : -9;
  }

  int alterRow(int i, int what, int v) {
    int was = row(i, what);
    if (in(i, 0, rows.size() - 1) && in(what, 0, 2)) {
      rows.get(i)[what] = v;
    }
    return was;
  }

  int judge() {
    List<int[]> right = proof(20);
    for (int i = 0; i < rows.size(); i++) {
      if (i >= right.size() || !java.util.Arrays.equals(rows.get(i), right.get(i))) {
        return i + 1;
      }
    }
    return 0;
  }

  int events(int sheet, int i, int day, int n) {
    if (!in(sheet, 0, 3) || !in(day, 0, 39) || !in(n, 0, 40) || day + n > 40) {
      return -1;
    }
    if (sheets[sheet] == null) {
      return -11;
    }
    if (sorts[sheet] != 0) {
      return -13;
    }
    if (i < 0 || (long) i + n > sheets[sheet].length) {
      return -12;
    }
    for (int k = 0; k < n; k++) {
      now.events[day + k] = Math.floorMod((int) sheets[sheet][i + k], 32);
    }
    return n;
  }

  int sheet(int sheet, int sort, int n) {
    if (!in(sheet, 0, 3) || !in(sort, -1, 3) || sort >= 0 && n > 40) {
      return -1;
    }
    if (sort == -1) {
      sheets[sheet] = null;
      return 1;
    }
    if (n < 0) {
      return -14;
    }
    sheets[sheet] = new long[n];
    sorts[sheet] = sort;
    return 1;
  }

  int put(int sheet, int i, int v) {
    if (!in(sheet, 0, 3)) {
      return -1;
    }
    if (sheets[sheet] == null) {
      return -11;
    }
    if (!in(i, 0, sheets[sheet].length - 1)) {
      return -12;
    }
    sheets[sheet][i] = sorts[sheet] == 0 ? (byte) v : sorts[sheet] == 1 ? (short) v : v;
    return 1;
  }

  int item(int sheet, int sort, int i) {
    if (!in(sheet, 0, 3) || !in(sort, 0, 3)) {
      return -1;
    }
    if (sheets[sheet] == null) {
      return -11;
    }
    if (sorts[sheet] != sort) {
      return -13;
    }
    return in(i, 0, sheets[sheet].length - 1) ? (int) sheets[sheet][i] : -12;
  }

  int shelf(int shelf, int what, int n) {
    if (!in(shelf, 0, 3) || !in(what, 0, 2) || what == 0 && !now.kid(n) || what == 1 && !in(n, 0, 3)) {
      return -1;
    }
    shelves[shelf] = what == 0 ? (Object) n : what == 1 && sheets[n] != null ? new int[] {sorts[n], sheets[n].length} : null;
    return 1;
  }

  int taken(int shelf, int as) {
    if (!in(shelf, 0, 3) || !in(as, 0, 5) && !in(as, 10, 13)) {
      return -1;
    }
    if (shelves[shelf] instanceof int[] row) {
      return as == 10 + row[0] ? row[1] : -13;
    }
    if (!(shelves[shelf] instanceof Integer n) || !now.kid(n)) {
      return -11;
    }
    List<List<Integer>> above = List.of(List.of(0), List.of(0, 1), List.of(0, 2), List.of(0, 3), List.of(0, 1, 4), List.of(0, 2, 5));
    return above.get(now.kids.get(n).kind).contains(as) ? n : -13;
  }

  // acts, by classes of things

  static final class Parted extends RuntimeException {
    private static final long serialVersionUID = 1;
  }

  static class Child {
    List<Integer> ran;
    int n, a;

    int knocks(int x) {
      ran.add(10);
      return x + n;
    }

    int crosses(int x) {
      ran.add(11);
      return knocks(x) * 2;
    }

    int shares(int x) {
      ran.add(12);
      if (a == n) {
        throw new Parted();
      }
      return x / (a - n);
    }

    int tells(int x) {
      ran.add(13);
      return crosses(x) ^ a;
    }
  }

  static class Kept extends Child {
    @Override
    int crosses(int x) {
      ran.add(20);
      return super.crosses(x) - a;
    }
  }

  static class Ill extends Child {
    @Override
    int knocks(int x) {
      ran.add(30);
      return super.knocks(x) * 3;
    }

    @Override
    int tells(int x) {
      ran.add(31);
      return super.tells(x) + shares(n);
    }
  }

  static class Catching extends Ill {
    @Override
    int knocks(int x) {
      ran.add(40);
      return 0 - super.knocks(x);
    }

    @Override
    int crosses(int x) {
      ran.add(41);
      return super.crosses(x) + knocks(n);
    }
  }

  static class Barefoot extends Kept {
    @Override
    int shares(int x) {
      ran.add(50);
      return super.shares(x + 2) ^ 1;
    }

    @Override
    int knocks(int x) {
      ran.add(51);
      return super.knocks(x) - n;
    }
  }

  static class Truant extends Child {
    @Override
    int tells(int x) {
      ran.add(60);
      return super.tells(x) * 2;
    }

    @Override
    int shares(int x) {
      ran.add(61);
      return super.shares(x) + knocks(a);
    }
  }

  int act(int shelf, int act, int x) {
    trace = new ArrayList<>();
    if (!in(shelf, 0, 3) || !in(act, 0, 3) || !(shelves[shelf] instanceof Integer n) || !now.kid(n)) {
      return 0;
    }
    int kind = now.kids.get(n).kind;
    Child c = kind == 0 ? new Child() : kind == 1 ? new Kept() : kind == 2 ? new Ill()
        : kind == 3 ? new Truant() : kind == 4 ? new Barefoot() : new Catching();
    c.ran = trace;
    c.n = n;
    c.a = now.kids.get(n).a;
    try {
      return act == 0 ? c.knocks(x) : act == 1 ? c.crosses(x) : act == 2 ? c.shares(x) : c.tells(x);
    } catch (Parted p) {
      return -15;
    }
  }

  int trace(int i) {
    return in(i, 0, Math.min(30, trace.size()) - 1) ? trace.get(i) : -3;
  }

  int many(int what) {
    if (!in(what, 0, 4)) {
      return -1;
    }
    return new int[] {now.kids.size(), now.crosses.size(), rows.size(), tape.length(), Math.min(30, trace.size())}[what];
  }

  int keep() {
    kept = now.copy();
    return 1;
  }

  int again() {
    if (kept == null) {
      return -3;
    }
    now = kept.copy();
    return now.today;
  }
}
