import java.util.ArrayList;
import java.util.Arrays;
import java.util.HashMap;
import java.util.List;
import java.util.Map;
import java.util.NoSuchElementException;

/**
 * The document said over in the plainest way, without a thought of speed or room: what QuayCranes is compared with.
 * It shares no code with the class.
 */
public final class Model {
  static final int NONE = -1;
  static final int HIDDEN = -1000000;

  static final class Crane {
    int bay;
    int lift;
    float sway;
    boolean broken;
    List<Integer> list = new ArrayList<>();
    // of the latest minute
    boolean works;
    boolean stepped;
    boolean pushed;
    boolean waits;

    Crane copy() {
      Crane c = new Crane();
      c.bay = bay;
      c.lift = lift;
      c.sway = sway;
      c.broken = broken;
      c.list = new ArrayList<>(list);
      return c;
    }

    int deed() {
      return works ? 4 : stepped ? 1 : pushed ? 2 : waits ? 3 : 0;
    }
  }

  static final class Task {
    int bay;
    int takes;
    int heavy;
    List<Integer> after = new ArrayList<>();
    int did;
    boolean done;
    int doneAt = NONE;
    int doer = NONE;

    Task copy() {
      Task t = new Task();
      t.bay = bay;
      t.takes = takes;
      t.heavy = heavy;
      t.after = new ArrayList<>(after);
      t.did = did;
      t.done = done;
      t.doneAt = doneAt;
      t.doer = doer;
      return t;
    }
  }

  static final class World {
    int bays;
    int gap = 1;
    int minute;
    List<Crane> cranes = new ArrayList<>();
    List<Task> tasks = new ArrayList<>();

    World copy() {
      World w = new World();
      w.bays = bays;
      w.gap = gap;
      w.minute = minute;
      for (Crane c : cranes) w.cranes.add(c.copy());
      for (Task t : tasks) w.tasks.add(t.copy());
      return w;
    }

    World with(List<List<Integer>> lists) {
      World w = copy();
      for (int c = 0; c < w.cranes.size(); c++) w.cranes.get(c).list = new ArrayList<>(lists.get(c));
      return w;
    }

    int next(Crane c) {
      for (int t : c.list) if (!tasks.get(t).done) return t;
      return NONE;
    }

    boolean ready(Task t) {
      for (int a : t.after) if (!tasks.get(a).done) return false;
      return true;
    }

    boolean canMove(int c, int way, boolean first) {
      Crane crane = cranes.get(c);
      if (!first && (crane.works || crane.broken || crane.stepped || crane.pushed)) return false;
      int to = crane.bay + way;
      if (to < 0 || to > bays - 1) return false;
      int d = c + way;
      if (d < 0 || d > cranes.size() - 1) return true;
      if (Math.abs(cranes.get(d).bay - to) >= gap) return true;
      return canMove(d, way, false);
    }

    void move(int c, int way, boolean first) {
      Crane crane = cranes.get(c);
      int to = crane.bay + way;
      int d = c + way;
      if (d >= 0 && d < cranes.size() && Math.abs(cranes.get(d).bay - to) < gap) move(d, way, false);
      crane.bay = to;
      if (first) crane.stepped = true; else crane.pushed = true;
    }

    void minute() {
      int[] next = new int[cranes.size()];
      for (int c = 0; c < cranes.size(); c++) {
        Crane crane = cranes.get(c);
        next[c] = next(crane);
        crane.stepped = crane.pushed = crane.waits = false;
        crane.works = !crane.broken && next[c] != NONE && tasks.get(next[c]).bay == crane.bay
            && ready(tasks.get(next[c])) && crane.sway < 1;
      }
      for (int c = 0; c < cranes.size(); c++) {
        Crane crane = cranes.get(c);
        if (crane.works || crane.broken || crane.stepped || crane.pushed || next[c] == NONE) continue;
        int to = tasks.get(next[c]).bay;
        if (to != crane.bay) {
          int way = to > crane.bay ? 1 : -1;
          if (canMove(c, way, true)) move(c, way, true); else crane.waits = true;
        } else {
          crane.waits = true;
        }
      }
      minute++;
      for (int c = 0; c < cranes.size(); c++) {
        Crane crane = cranes.get(c);
        if (crane.stepped || crane.pushed) {
          crane.sway *= 0.75f;
          crane.sway += 1.5f;
        } else {
          crane.sway *= 0.5f;
        }
        if (crane.works) {
          Task t = tasks.get(next[c]);
          t.did++;
          if (t.did == t.takes) {
            t.done = true;
            t.doneAt = minute;
            t.doer = c;
          }
        }
      }
    }

    boolean toldDone() {
      for (Crane c : cranes) for (int t : c.list) if (!tasks.get(t).done) return false;
      return true;
    }

    int lastOf() {
      World w = copy();
      for (int m = 0; m <= 300; m++) {
        if (w.toldDone()) return m;
        w.minute();
      }
      return NONE;
    }

    List<Integer> left() {
      List<Integer> left = new ArrayList<>();
      for (int t = 0; t < tasks.size(); t++) if (!tasks.get(t).done) left.add(t);
      return left;
    }

    int minutesLeft(int t) {
      return tasks.get(t).takes - tasks.get(t).did;
    }

    boolean fits(int c, int t) {
      return tasks.get(t).heavy <= cranes.get(c).lift;
    }

    List<List<Integer>> lists() {
      List<List<Integer>> lists = new ArrayList<>();
      for (Crane c : cranes) lists.add(new ArrayList<>(c.list));
      return lists;
    }
  }

  static final class Found {
    List<List<Integer>> lists;
    int last = NONE;
    int task = NONE;
    int crane = NONE;
    int place = NONE;

    int tell(int what) {
      if (lists == null) return NONE;
      if (what == NONE) return last;
      int t = what % 10;
      for (int c = 0; c < lists.size(); c++) {
        int p = lists.get(c).indexOf(t);
        if (p >= 0) return what < 10 ? c : p;
      }
      return NONE;
    }
  }

  /** A text that can't be read: where. */
  static final class Fault extends Exception {
    private static final long serialVersionUID = 1;
    final int at;

    Fault(int at) {
      super(null, null, false, false);
      this.at = at;
    }
  }

  static final class Part {
    String text;
    int at;

    boolean number() {
      return !text.isEmpty() && Character.isDigit(text.charAt(0));
    }
  }

  /** The parts of a text, the last an empty one at its length. */
  static final class Parts {
    final List<Part> parts = new ArrayList<>();
    int k;

    Parts(String text) {
      int i = 0;
      while (i < text.length()) {
        char ch = text.charAt(i);
        if (ch == ' ') {
          i++;
          continue;
        }
        int j = i + 1;
        if (ch >= 'a' && ch <= 'z') {
          while (j < text.length() && text.charAt(j) >= 'a' && text.charAt(j) <= 'z') j++;
        } else if (ch >= '0' && ch <= '9') {
          while (j < text.length() && text.charAt(j) >= '0' && text.charAt(j) <= '9') j++;
        }
        add(text.substring(i, j), i);
        i = j;
      }
      add("", text.length());
    }

    private void add(String text, int at) {
      Part p = new Part();
      p.text = text;
      p.at = at;
      parts.add(p);
    }

    Part peek() {
      return parts.get(k);
    }

    boolean ended() {
      return peek().text.isEmpty();
    }

    Fault fault() {
      return new Fault(peek().at);
    }

    void want(String text) throws Fault {
      if (!peek().text.equals(text)) throw fault();
      k++;
    }

    boolean perhaps(String text) {
      if (!peek().text.equals(text)) return false;
      k++;
      return true;
    }

    int number(int least, int most) throws Fault {
      Part p = peek();
      if (!p.number() || p.text.length() > 2) throw fault();
      int n = Integer.parseInt(p.text);
      if (n < least || n > most) throw fault();
      k++;
      return n;
    }
  }

  static World readQuay(String text) throws Fault {
    Parts in = new Parts(text);
    World w = new World();
    in.want("bays");
    w.bays = in.number(2, 30);
    in.want(";");
    if (in.perhaps("gap")) {
      w.gap = in.number(1, 5);
      in.want(";");
    }
    boolean more = true;
    in: {
      do {
        if (w.cranes.size() == 4) throw in.fault();
        in.want("crane");
        Crane c = new Crane();
        c.bay = in.number(w.cranes.isEmpty() ? 0 : w.cranes.get(w.cranes.size() - 1).bay + w.gap, w.bays - 1);
        c.lift = in.perhaps("lift") ? in.number(1, 99) : 99;
        w.cranes.add(c);
        if (in.ended()) break in;
        in.want(";");
      } while (in.peek().text.equals("crane"));
      while (more) {
        if (w.tasks.size() == 8) throw in.fault();
        in.want("task");
        in.want("at");
        Task t = new Task();
        t.bay = in.number(0, w.bays - 1);
        in.want("takes");
        t.takes = in.number(1, 30);
        t.heavy = in.perhaps("heavy") ? in.number(1, 99) : 1;
        while (in.perhaps("after")) t.after.add(in.number(0, w.tasks.size() - 1));
        w.tasks.add(t);
        more = !in.ended();
        if (more) in.want(";");
      }
    }
    return w;
  }

  static List<List<Integer>> readPlan(World w, String text) throws Fault {
    Parts in = new Parts(text);
    List<List<Integer>> lists = new ArrayList<>();
    for (int c = 0; c < w.cranes.size(); c++) lists.add(new ArrayList<>());
    if (in.ended()) return lists;
    boolean[] had = new boolean[4];
    boolean[] told = new boolean[8];
    while (true) {
      int at = in.k;
      int c = in.number(0, w.cranes.size() - 1);
      if (had[c]) {
        in.k = at;
        throw in.fault();
      }
      had[c] = true;
      while (in.peek().number()) {
        int here = in.k;
        int t = in.number(0, w.tasks.size() - 1);
        if (told[t] || w.tasks.get(t).done || !w.fits(c, t)) {
          in.k = here;
          throw in.fault();
        }
        told[t] = true;
        lists.get(c).add(t);
      }
      if (in.ended()) return lists;
      in.want(";");
    }
  }

  static List<int[]> readMoves(World w, String text) throws Fault {
    Parts in = new Parts(text);
    List<int[]> rows = new ArrayList<>();
    while (true) {
      if (rows.size() == 40) throw in.fault();
      int[] row = new int[w.cranes.size()];
      for (int c = 0; c < row.length; c++) row[c] = in.number(0, 99);
      rows.add(row);
      if (in.ended()) return rows;
      in.want(";");
    }
  }

  // ---- the object

  String tape = "";
  World w;
  World image;
  final List<World> acts = new ArrayList<>();
  final int[] refused = new int[4];
  private final Map<String, Found> found = new HashMap<>();
  private List<World> course;

  private void changed() {
    found.clear();
    course = null;
  }

  private int refuse(int why) {
    refused[why]++;
    return NONE;
  }

  private void keep() {
    acts.add(w.copy());
    if (acts.size() > 10) acts.remove(0);
    changed();
  }

  private List<World> ahead() {
    if (course == null) {
      course = new ArrayList<>();
      World at = w.copy();
      for (Crane c : at.cranes) c.works = c.stepped = c.pushed = c.waits = false;
      course.add(at);
      for (int m = 0; m < 300; m++) {
        World then = at.copy();
        then.minute();
        course.add(then);
        at = then;
      }
    }
    return course;
  }

  public int feed(int... five) {
    StringBuilder sb = new StringBuilder();
    for (int n : five) {
      for (int s = 24; s >= 0; s -= 8) {
        int b = n >>> s & 255;
        if (b != 0) sb.append((char) b);
      }
    }
    if (tape.length() + sb.length() > 400) return NONE;
    tape += sb;
    return tape.length();
  }

  public boolean end(int n) {
    if (n < 0 || n > tape.length()) return false;
    tape = tape.substring(0, n);
    return true;
  }

  public int fault(int what) {
    if (what < 0 || what > 2 || what > 0 && w == null) return -2;
    try {
      if (what == 0) readQuay(tape);
      if (what == 1) readPlan(w, tape);
      if (what == 2) readMoves(w, tape);
      return NONE;
    } catch (Fault f) {
      return f.at;
    }
  }

  public int quay() {
    try {
      w = readQuay(tape);
    } catch (Fault f) {
      return NONE;
    }
    tape = "";
    image = null;
    acts.clear();
    changed();
    return w.tasks.size();
  }

  public int plan() {
    if (w == null) {
      refuse(0);
      return HIDDEN;
    }
    List<List<Integer>> lists;
    try {
      lists = readPlan(w, tape);
    } catch (Fault f) {
      refuse(1);
      return HIDDEN;
    }
    keep();
    w = w.with(lists);
    tape = "";
    return w.lastOf();
  }

  public int go(int n) {
    if (w == null) return refuse(0);
    if (n < 1 || n > 100 || w.minute + n > 500) return refuse(1);
    keep();
    for (int m = 0; m < n; m++) w.minute();
    return w.minute;
  }

  private boolean crane(int c) {
    return w != null && c >= 0 && c < w.cranes.size();
  }

  private boolean task(int t) {
    return w != null && t >= 0 && t < w.tasks.size();
  }

  public int breaks(int crane, boolean is) {
    if (!crane(crane)) return refuse(0);
    if (w.cranes.get(crane).broken == is) return refuse(2);
    keep();
    w.cranes.get(crane).broken = is;
    return brokenCount();
  }

  private int brokenCount() {
    int n = 0;
    for (Crane c : w.cranes) if (c.broken) n++;
    return n;
  }

  public int more(int bay, int takes, int heavy, int after) {
    if (w == null || bay < 0 || bay >= w.bays || after != NONE && !task(after)) return refuse(0);
    if (takes < 1 || takes > 30 || heavy < 1 || heavy > 99) return refuse(1);
    if (w.tasks.size() == 8) return refuse(3);
    keep();
    Task t = new Task();
    t.bay = bay;
    t.takes = takes;
    t.heavy = heavy;
    if (after != NONE) t.after.add(after);
    w.tasks.add(t);
    return w.tasks.size() - 1;
  }

  public int rule(int what) {
    if (w == null || what < 0 || what > 7) return HIDDEN;
    int done = 0;
    for (int t = 0; t < w.tasks.size(); t++) if (w.tasks.get(t).done) done |= 1 << t;
    int broken = 0;
    int told = 0;
    for (int c = 0; c < w.cranes.size(); c++) {
      if (w.cranes.get(c).broken) broken |= 1 << c;
      for (int t : w.cranes.get(c).list) told |= 1 << t;
    }
    return new int[] {w.bays, w.gap, w.cranes.size(), w.tasks.size(), w.minute, done, broken, told}[what];
  }

  public int crane(int crane, int what) {
    if (!crane(crane) || what < 0 || what > 5) throw new NoSuchElementException();
    Crane c = w.cranes.get(crane);
    return new int[] {c.bay, c.lift, w.next(c), c.list.size(), (int) (c.sway * 10), Float.floatToIntBits(c.sway)}[what];
  }

  public int task(int task, int what) {
    if (!task(task) || what < 0 || what > 8) return NONE;
    Task t = w.tasks.get(task);
    int after = 0;
    for (int a : t.after) after |= 1 << a;
    int holder = NONE;
    for (int c = 0; c < w.cranes.size(); c++) if (w.cranes.get(c).list.contains(task)) holder = c;
    return new int[] {t.bay, t.takes, t.heavy, after, t.did, t.done ? 1 : 0, holder, t.doneAt, t.doer}[what];
  }

  public int last() {
    return w == null ? HIDDEN : w.lastOf();
  }

  public int where(int crane, int m) {
    return crane(crane) && m >= 0 && m <= 300 ? ahead().get(m).cranes.get(crane).bay : NONE;
  }

  public int deed(int crane, int m) {
    return crane(crane) && m >= 0 && m < 300 ? ahead().get(m + 1).cranes.get(crane).deed() : NONE;
  }

  public int deeds(int crane, int n, int deed) {
    if (!crane(crane) || n < 0 || n > 300 || deed < 0 || deed > 4) return NONE;
    int many = 0;
    for (int m = 0; m < n; m++) if (deed(crane, m) == deed) many++;
    return many;
  }

  public int doneBy(int task) {
    if (!task(task)) return NONE;
    for (int m = 0; m <= 300; m++) if (ahead().get(m).tasks.get(task).done) return m;
    return NONE;
  }

  public int tried() {
    if (w == null) return HIDDEN;
    try {
      World t = w.with(readPlan(w, tape));
      tape = "";
      return t.lastOf();
    } catch (Fault f) {
      return HIDDEN;
    }
  }

  public int moves() {
    if (w == null) return HIDDEN;
    List<int[]> rows;
    try {
      rows = readMoves(w, tape);
    } catch (Fault f) {
      return HIDDEN;
    }
    tape = "";
    for (int k = 0; k < rows.size(); k++) {
      int[] row = rows.get(k);
      for (int c = 0; c < row.length; c++) {
        if (row[c] >= w.bays) return k;
        if (c > 0 && row[c] - row[c - 1] < w.gap) return k;
        if (k == 0 && row[c] != w.cranes.get(c).bay) return k;
        if (k > 0) {
          int d = Math.abs(row[c] - rows.get(k - 1)[c]);
          if (d > 1 || d > 0 && w.cranes.get(c).broken) return k;
        }
      }
    }
    return NONE;
  }

  // ---- what is looked for

  private static void allPlans(World w, List<Integer> left, int crane, List<List<Integer>> lists, Found f) {
    if (crane == w.cranes.size()) {
      if (left.isEmpty()) weigh(w, lists, f, 300);
      return;
    }
    lists.add(new ArrayList<>());
    allPlans(w, left, crane + 1, lists, f);
    lists.remove(lists.size() - 1);
    if (w.cranes.get(crane).broken) return;
    extendList(w, left, crane, lists, new ArrayList<>(), f);
  }

  private static void extendList(World w, List<Integer> left, int crane, List<List<Integer>> lists, List<Integer> own, Found f) {
    for (int t : left) {
      if (!w.fits(crane, t)) continue;
      List<Integer> rest = new ArrayList<>(left);
      rest.remove((Integer) t);
      List<Integer> longer = new ArrayList<>(own);
      longer.add(t);
      lists.add(longer);
      allPlans(w, rest, crane + 1, lists, f);
      lists.remove(lists.size() - 1);
      extendList(w, rest, crane, lists, longer, f);
    }
  }

  private static boolean weigh(World w, List<List<Integer>> lists, Found f, int most) {
    int last = w.with(lists).lastOf();
    if (last == NONE || last > most || f.lists != null && last >= f.last) return false;
    f.last = last;
    f.lists = new ArrayList<>();
    for (List<Integer> l : lists) f.lists.add(new ArrayList<>(l));
    return true;
  }

  private Found best(World from, String key) {
    return found.computeIfAbsent(key, k -> {
      Found f = new Found();
      allPlans(from, from.left(), 0, new ArrayList<>(), f);
      return f;
    });
  }

  private boolean known(int what) {
    return w != null && (what == NONE || task(what) || what >= 10 && task(what - 10));
  }

  public int best(int what) {
    if (!known(what)) return HIDDEN;
    if (w.left().size() > 5) return -2;
    return best(w, "best").tell(what);
  }

  private Found easyFound() {
    return found.computeIfAbsent("easy", k -> {
      Found f = new Found();
      World e = w.copy();
      for (Crane c : e.cranes) c.list.clear();
      for (int m = 0; m <= 300; m++) {
        if (e.left().isEmpty()) {
          f.last = m;
          f.lists = e.lists();
          break;
        }
        for (int c = 0; c < e.cranes.size(); c++) {
          Crane crane = e.cranes.get(c);
          if (crane.broken || e.next(crane) != NONE) continue;
          int got = NONE;
          for (int t : e.left()) {
            boolean given = false;
            for (Crane other : e.cranes) given |= other.list.contains(t);
            if (given || !e.ready(e.tasks.get(t)) || !e.fits(c, t)) continue;
            if (got == NONE || Math.abs(e.tasks.get(t).bay - crane.bay) < Math.abs(e.tasks.get(got).bay - crane.bay)) got = t;
          }
          if (got != NONE) crane.list.add(got);
        }
        e.minute();
      }
      return f;
    });
  }

  public int easy(int what) {
    return known(what) ? easyFound().tell(what) : HIDDEN;
  }

  private Found zonesFound() {
    return found.computeIfAbsent("zones", k -> {
      Found f = new Found();
      List<Integer> order = w.left();
      order.sort((a, b) -> w.tasks.get(a).bay != w.tasks.get(b).bay ? w.tasks.get(a).bay - w.tasks.get(b).bay : a - b);
      int n = order.size();
      int many = w.cranes.size();
      int[] counts = new int[many];
      // all rows of counts, as the digits of a number rise
      int all = 1;
      for (int c = 0; c < many; c++) all *= n + 1;
      for (int row = 0; row < all; row++) {
        int rest = row;
        int sum = 0;
        for (int c = many - 1; c >= 0; c--) {
          counts[c] = rest % (n + 1);
          sum += counts[c];
          rest /= n + 1;
        }
        if (sum != n) continue;
        List<List<Integer>> lists = new ArrayList<>();
        int at = 0;
        boolean can = true;
        for (int c = 0; c < many; c++) {
          List<Integer> run = new ArrayList<>(order.subList(at, at + counts[c]));
          at += counts[c];
          if (!run.isEmpty() && w.cranes.get(c).broken) can = false;
          for (int t : run) can &= w.fits(c, t);
          lists.add(run);
        }
        if (can) weigh(w, lists, f, 300);
      }
      return f;
    });
  }

  public int zones(int what) {
    return known(what) ? zonesFound().tell(what) : HIDDEN;
  }

  private Found betterFound() {
    return found.computeIfAbsent("better", k -> {
      Found f = new Found();
      int last = w.lastOf();
      for (int t : w.left()) {
        List<List<Integer>> rest = w.lists();
        boolean told = false;
        for (List<Integer> l : rest) told |= l.remove((Integer) t);
        if (!told) continue;
        for (int c = 0; c < w.cranes.size(); c++) {
          if (w.cranes.get(c).broken || !w.fits(c, t)) continue;
          for (int p = 0; p <= rest.get(c).size(); p++) {
            List<List<Integer>> lists = new ArrayList<>();
            for (List<Integer> l : rest) lists.add(new ArrayList<>(l));
            lists.get(c).add(p, t);
            if (weigh(w, lists, f, last == NONE ? 300 : last - 1)) {
              f.task = t;
              f.crane = c;
              f.place = p;
            }
          }
        }
      }
      return f;
    });
  }

  public int better(int what) {
    if (w == null || what < 0 || what > 3) return HIDDEN;
    Found f = betterFound();
    return new int[] {f.last, f.task, f.crane, f.place}[what];
  }

  public int follow(int which) {
    if (w == null) return refuse(0);
    if (which < 0 || which > 3 || which == 2 && w.left().size() > 5) return refuse(1);
    Found f = which == 0 ? easyFound() : which == 1 ? zonesFound() : which == 2 ? best(w, "best") : betterFound();
    if (f.lists == null) return refuse(1);
    keep();
    w = w.with(f.lists);
    return w.lastOf();
  }

  public int written(int k) {
    if (w == null || k < NONE) return NONE;
    List<String> lines = new ArrayList<>();
    for (int c = 0; c < w.cranes.size(); c++) {
      StringBuilder sb = new StringBuilder().append(c);
      for (int t : w.cranes.get(c).list) sb.append(' ').append(t);
      lines.add(sb.toString());
    }
    String text = String.join(";", lines);
    return k == NONE ? text.length() : k < text.length() ? text.charAt(k) : NONE;
  }

  public int nearest(int n) {
    if (w == null || w.cranes.size() == 1 || n < 0 || n > 300) return NONE;
    int least = Integer.MAX_VALUE;
    for (World at : ahead().subList(0, n + 1)) {
      for (int c = 1; c < at.cranes.size(); c++) {
        least = Math.min(least, at.cranes.get(c).bay - at.cranes.get(c - 1).bay - at.gap);
      }
    }
    return least;
  }

  public int swings(int crane, int n) {
    if (!crane(crane) || n < 0 || n > 300) return NONE;
    float most = 0;
    for (World at : ahead().subList(0, n + 1)) most = Math.max(most, at.cranes.get(crane).sway);
    return Float.floatToIntBits(most);
  }

  public int idle(int n) {
    if (w == null || n < 0 || n > 300) return NONE;
    int many = 0;
    for (World at : ahead().subList(1, n + 1)) {
      boolean work = false;
      for (Crane c : at.cranes) work |= c.works;
      if (!work) many++;
    }
    return many;
  }

  private int lastWithout(int c) {
    World lacking = w.copy();
    lacking.cranes.get(c).broken = true;
    return best(lacking, "without " + c).last;
  }

  public int dearest(int what) {
    if (w == null || what < 0 || what > 1) return HIDDEN;
    if (w.left().size() > 5) return -2;
    int dear = NONE;
    for (int c = 0; c < w.cranes.size(); c++) {
      if (w.cranes.get(c).broken) continue;
      if (dear == NONE) {
        dear = c;
      } else if (lastWithout(dear) != NONE && (lastWithout(c) == NONE || lastWithout(c) > lastWithout(dear))) {
        dear = c;
      }
    }
    return what == 0 ? dear : dear == NONE ? NONE : lastWithout(dear);
  }

  private int row(int t) {
    int ahead = 0;
    for (int a : w.tasks.get(t).after) ahead = Math.max(ahead, row(a));
    return ahead + w.minutesLeft(t);
  }

  public int bound(int what) {
    if (w == null || what < 0 || what > 3) return HIDDEN;
    if (w.left().isEmpty()) return 0;
    int able = w.cranes.size() - brokenCount();
    if (able == 0) return NONE;
    int chain = 0;
    int sum = 0;
    for (int t = 0; t < w.tasks.size(); t++) {
      chain = Math.max(chain, row(t));
      sum += w.minutesLeft(t);
    }
    int share = (int) Math.ceil(sum / (double) able);
    int crowd = 0;
    for (int b = 0; b < w.bays; b++) {
      // a row that juts out over the end holds no more than the last whole one
      int here = 0;
      for (int t = 0; t < w.tasks.size(); t++) {
        int d = w.tasks.get(t).bay - b;
        if (d >= 0 && d < w.gap) here += w.minutesLeft(t);
      }
      crowd = Math.max(crowd, here);
    }
    return new int[] {Math.max(chain, Math.max(share, crowd)), chain, share, crowd}[what];
  }

  public int without(int crane) {
    if (!crane(crane)) return HIDDEN;
    if (w.left().size() > 5) return -2;
    return lastWithout(crane);
  }

  public int slack(int task) {
    if (!task(task) || w.tasks.get(task).done) return HIDDEN;
    int last = w.lastOf();
    if (last == NONE) return NONE;
    for (int x = 1; x <= 61; x++) {
      World longer = w.copy();
      longer.tasks.get(task).takes += x;
      if (longer.lastOf() != last) return x - 1;
    }
    return 61;
  }

  public long mean(int what) {
    if (w == null || w.tasks.isEmpty() || what < 0 || what > 1) return HIDDEN;
    return Double.doubleToLongBits(w.tasks.stream().mapToInt(t -> what == 0 ? t.bay : t.takes).sum() / (double) w.tasks.size());
  }

  public int undo() {
    if (acts.isEmpty()) return NONE;
    w = acts.remove(acts.size() - 1);
    changed();
    return acts.size();
  }

  public int image() {
    if (w == null) return NONE;
    image = w.copy();
    return w.minute;
  }

  public int back() {
    if (image == null) return NONE;
    w = image.copy();
    acts.clear();
    changed();
    return w.minute;
  }

  public int status(int what) {
    return what < 0 || what > 3 ? NONE : refused[what];
  }

  public int most(int what) {
    if (w == null || what < 0 || what > 3) return NONE;
    float[] sizes;
    if (what == 0) {
      sizes = new float[w.cranes.size()];
      for (int c = 0; c < sizes.length; c++) for (int t : w.cranes.get(c).list) sizes[c] += w.minutesLeft(t);
    } else if (what == 1) {
      sizes = new float[w.bays];
      for (int t = 0; t < w.tasks.size(); t++) sizes[w.tasks.get(t).bay] += w.minutesLeft(t);
    } else if (what == 2) {
      sizes = new float[w.tasks.size()];
      for (int t = 0; t < sizes.length; t++) sizes[t] = w.tasks.get(t).takes;
    } else {
      sizes = new float[w.cranes.size()];
      for (int c = 0; c < sizes.length; c++) sizes[c] = w.cranes.get(c).sway;
    }
    int found = NONE;
    for (int k = 0; k < sizes.length; k++) if (found == NONE || sizes[k] > sizes[found]) found = k;
    return found;
  }

  public int count(int what) {
    return what == 0 ? tape.length() : what == 1 ? acts.size() : NONE;
  }

  @Override
  public String toString() {
    return "tape '" + tape + "' acts " + acts.size() + " refused " + Arrays.toString(refused);
  }
}
