import java.util.ArrayList;
import java.util.List;
import java.util.NoSuchElementException;
import java.util.Random;

/** Many runs of calls, of ordinary and of wild arguments, each answer compared with the Model's. */
public final class AgainstModel {
  private static int wrong = 0;
  private static long calls = 0;
  private static final long THROWN = Long.MIN_VALUE;

  private final Random random;
  private final QuayCranes x = new QuayCranes();
  private final Model m = new Model();
  private final List<String> told = new ArrayList<>();
  private final int mostTasks;
  private int bays = 10;
  private int cranes = 2;

  private AgainstModel(long seed) {
    random = new Random(seed);
    mostTasks = random.nextInt(6) == 0 ? 8 : 2 + random.nextInt(3);
  }

  public static void main(String[] args) {
    int runs = args.length > 0 ? Integer.parseInt(args[0]) : 250;
    long first = args.length > 1 ? Long.parseLong(args[1]) : 1;
    for (long seed = first; seed < first + runs && wrong < 5; seed++) {
      new AgainstModel(seed).run(seed);
    }
    System.out.println(calls + " calls compared, " + wrong + " wrong");
    if (wrong != 0) System.exit(1);
  }

  private int upTo(int n) {
    return random.nextInt(n + 1);
  }

  /** Mostly within bounds, now and then at or beyond them, or anything. */
  private int near(int least, int most) {
    switch (random.nextInt(14)) {
      case 0: return least - 1;
      case 1: return most + 1;
      case 2: return random.nextInt(4) == 0 ? random.nextInt() : least;
      case 3: return random.nextInt(4) == 0 ? (random.nextBoolean() ? Integer.MIN_VALUE : Integer.MAX_VALUE) : most;
      default: return least + random.nextInt(most - least + 1);
    }
  }

  private String blanks() {
    return random.nextInt(6) == 0 ? "  ".substring(random.nextInt(2)) : "";
  }

  private String word(String w) {
    return blanks() + w + (random.nextInt(20) == 0 ? "" : " ");
  }

  private String number(int n) {
    return (n < 10 && random.nextInt(10) == 0 ? "0" : "") + n + blanks();
  }

  private String quayText() {
    StringBuilder sb = new StringBuilder();
    int many = 1 + random.nextInt(4);
    int gap = random.nextInt(3) == 0 ? 1 : 1 + random.nextInt(random.nextInt(3) == 0 ? 5 : 2);
    int needed = (many - 1) * gap + 1;
    bays = Math.max(2, Math.min(30, needed + random.nextInt(random.nextInt(5) == 0 ? 20 : 7)));
    cranes = many;
    sb.append(word("bays")).append(number(bays)).append(';').append(blanks());
    if (gap != 1 || random.nextBoolean()) sb.append(word("gap")).append(number(gap)).append(';').append(blanks());
    int free = bays - needed;
    int at = 0;
    int lowLift = random.nextInt(3);
    for (int c = 0; c < many; c++) {
      int skip = upTo(free);
      free -= skip;
      at += skip;
      if (c > 0) sb.append(';');
      sb.append(word("crane")).append(number(at));
      if (lowLift == 0) sb.append(' ').append(word("lift")).append(number(1 + random.nextInt(6)));
      at += gap;
    }
    int tasks = upTo(mostTasks);
    for (int t = 0; t < tasks; t++) {
      sb.append(';').append(word("task")).append(word("at")).append(number(upTo(bays - 1)));
      sb.append(' ').append(word("takes")).append(number(1 + random.nextInt(random.nextInt(8) == 0 ? 30 : 6)));
      if (lowLift == 0 || random.nextInt(4) == 0) sb.append(' ').append(word("heavy")).append(number(1 + random.nextInt(6)));
      for (int k = 0; t > 0 && k < 2 && random.nextInt(4) == 0; k++) {
        sb.append(' ').append(word("after")).append(number(random.nextInt(t)));
      }
    }
    return sb.toString();
  }

  private String planText() {
    List<Integer> tasks = new ArrayList<>();
    for (int t = 0; m.w != null && t < m.w.tasks.size(); t++) {
      if (!m.w.tasks.get(t).done && random.nextInt(8) != 0) tasks.add(random.nextInt(tasks.size() + 1), t);
    }
    List<String> lines = new ArrayList<>();
    int many = m.w == null ? 2 : m.w.cranes.size();
    for (int c = 0; c < many; c++) {
      StringBuilder sb = new StringBuilder(blanks() + c + blanks());
      for (int k = tasks.size() - 1; k >= 0; k--) {
        boolean fits = m.w == null || m.w.fits(c, tasks.get(k));
        if (fits && (random.nextInt(many - c) == 0) || random.nextInt(60) == 0) {
          sb.append(' ').append(tasks.remove(k)).append(blanks());
        }
      }
      if (random.nextInt(6) != 0) lines.add(random.nextInt(lines.size() + 1), sb.toString());
    }
    return String.join(";", lines);
  }

  private String movesText() {
    if (m.w == null) return "1 2;1 3";
    int[] row = new int[m.w.cranes.size()];
    for (int c = 0; c < row.length; c++) row[c] = m.w.cranes.get(c).bay;
    StringBuilder sb = new StringBuilder();
    int lines = random.nextInt(12) == 0 ? 38 + random.nextInt(5) : 1 + random.nextInt(9);
    for (int k = 0; k < lines; k++) {
      if (k > 0) sb.append(';');
      for (int c = 0; c < row.length; c++) sb.append(c > 0 ? " " : blanks()).append(Math.max(0, row[c]));
      int c = random.nextInt(row.length);
      int to = row[c] + random.nextInt(3) - 1;
      boolean fine = to >= 0 && to < m.w.bays && (c == 0 || to - row[c - 1] >= m.w.gap)
          && (c == row.length - 1 || row[c + 1] - to >= m.w.gap) && !m.w.cranes.get(c).broken;
      if (fine || random.nextInt(12) == 0) row[c] = random.nextInt(30) == 0 ? random.nextInt(100) : to;
    }
    return sb.toString();
  }

  /** Now and then one part or byte is another, more or less. */
  private String bent(String text) {
    if (random.nextInt(3) != 0 || text.isEmpty()) return text;
    String[] odd = {"a", "z", "0", "9", " ", ";", "crane", "task", "after 0", "gap 1;", "lift 5", "A", "\u00ff", "\u0001", "-", "at", "takes", "heavy 3", ";;", "123", "`", "{", "/", ":", "!", "\t"};
    int at = random.nextInt(text.length() + 1);
    switch (random.nextInt(4)) {
      case 0: return text.substring(0, at);
      case 1: return text.substring(0, at) + odd[random.nextInt(odd.length)] + text.substring(at);
      case 2: return text.substring(0, at) + text.substring(Math.min(text.length(), at + 1 + random.nextInt(3)));
      default: return text.substring(0, at) + odd[random.nextInt(odd.length)] + text.substring(Math.min(text.length(), at + 1));
    }
  }

  private void feed(String text) {
    call("end", 0);
    for (int i = 0; i < text.length(); ) {
      int[] five = new int[5];
      for (int k = 0; k < 20 && i < text.length(); k++) {
        if (random.nextInt(50) == 0) continue;
        five[k / 4] |= text.charAt(i) << 24 - k % 4 * 8;
        i++;
      }
      call("feed", five);
    }
  }

  private void call(String name, int... a) {
    told.add(name + java.util.Arrays.toString(a));
    calls++;
    long got;
    try {
      got = ask(name, a);
    } catch (NoSuchElementException e) {
      got = name.equals("crane") ? THROWN : THROWN + 1;
    } catch (RuntimeException e) {
      e.printStackTrace(System.out);
      got = THROWN + 2;
    }
    long want = name.equals("crane") ? craneDue(a) : due(name, a);
    if (got != want) {
      wrong++;
      System.out.println(told.size() + ": " + told.get(told.size() - 1) + " answered " + got + ", due is " + want + "; " + m);
      if (wrong < 3) System.out.println(told);
    }
  }

  private long craneDue(int[] a) {
    try {
      return m.crane(a[0], a[1]);
    } catch (NoSuchElementException e) {
      return THROWN;
    }
  }

  private long ask(String name, int[] a) {
    switch (name) {
      case "feed": return x.feed(a[0], a[1], a[2], a[3], a[4]);
      case "end": return x.end(a[0]) ? 1 : 0;
      case "fault": return x.fault(a[0]);
      case "quay": return x.quay();
      case "plan": return x.plan();
      case "go": return x.go(a[0]);
      case "breaks": return x.breaks(a[0], a[1] != 0);
      case "more": return x.more(a[0], a[1], a[2], a[3]);
      case "rule": return x.rule(a[0]);
      case "crane": return x.crane(a[0], a[1]);
      case "task": return x.task(a[0], a[1]);
      case "last": return x.last();
      case "where": return x.where(a[0], a[1]);
      case "deed": return x.deed(a[0], a[1]);
      case "deeds": return x.deeds(a[0], a[1], a[2]);
      case "doneBy": return x.doneBy(a[0]);
      case "tried": return x.tried();
      case "moves": return x.moves();
      case "best": return x.best(a[0]);
      case "easy": return x.easy(a[0]);
      case "zones": return x.zones(a[0]);
      case "better": return x.better(a[0]);
      case "follow": return x.follow(a[0]);
      case "written": return x.written(a[0]);
      case "nearest": return x.nearest(a[0]);
      case "swings": return x.swings(a[0], a[1]);
      case "idle": return x.idle(a[0]);
      case "dearest": return x.dearest(a[0]);
      case "bound": return x.bound(a[0]);
      case "without": return x.without(a[0]);
      case "slack": return x.slack(a[0]);
      case "mean": return x.mean(a[0]);
      case "undo": return x.undo();
      case "image": return x.image();
      case "back": return x.back();
      case "status": return x.status(a[0]);
      case "most": return x.most(a[0]);
      default: return x.count(a[0]);
    }
  }

  private long due(String name, int[] a) {
    switch (name) {
      case "feed": return m.feed(a);
      case "end": return m.end(a[0]) ? 1 : 0;
      case "fault": return m.fault(a[0]);
      case "quay": return m.quay();
      case "plan": return m.plan();
      case "go": return m.go(a[0]);
      case "breaks": return m.breaks(a[0], a[1] != 0);
      case "more": return m.more(a[0], a[1], a[2], a[3]);
      case "rule": return m.rule(a[0]);
      case "task": return m.task(a[0], a[1]);
      case "last": return m.last();
      case "where": return m.where(a[0], a[1]);
      case "deed": return m.deed(a[0], a[1]);
      case "deeds": return m.deeds(a[0], a[1], a[2]);
      case "doneBy": return m.doneBy(a[0]);
      case "tried": return m.tried();
      case "moves": return m.moves();
      case "best": return m.best(a[0]);
      case "easy": return m.easy(a[0]);
      case "zones": return m.zones(a[0]);
      case "better": return m.better(a[0]);
      case "follow": return m.follow(a[0]);
      case "written": return m.written(a[0]);
      case "nearest": return m.nearest(a[0]);
      case "swings": return m.swings(a[0], a[1]);
      case "idle": return m.idle(a[0]);
      case "dearest": return m.dearest(a[0]);
      case "bound": return m.bound(a[0]);
      case "without": return m.without(a[0]);
      case "slack": return m.slack(a[0]);
      case "mean": return m.mean(a[0]);
      case "undo": return m.undo();
      case "image": return m.image();
      case "back": return m.back();
      case "status": return m.status(a[0]);
      case "most": return m.most(a[0]);
      default: return m.count(a[0]);
    }
  }

  private int aCrane() {
    return near(0, Math.max(0, cranes - 1));
  }

  private int aTask() {
    return near(0, 7);
  }

  private int aWhat() {
    return random.nextInt(4) == 0 ? NONE() : random.nextBoolean() ? near(0, 4) : near(10, 14);
  }

  private static int NONE() {
    return -1;
  }

  private void text() {
    switch (random.nextInt(7)) {
      case 0:
        feed(bent(quayText()));
        call("fault", 0);
        if (random.nextInt(3) != 0 || m.w == null) call("quay");
        break;
      case 1: case 2: case 3:
        feed(bent(planText()));
        call("fault", 1);
        call(random.nextInt(3) == 0 ? "tried" : "plan");
        break;
      case 4:
        feed(bent(movesText()));
        call("fault", 2);
        call("moves");
        break;
      case 5:
        feed(random.nextBoolean() ? bent(quayText()) : planText());
        for (int what = -1; what <= 3; what++) call("fault", what);
        break;
      default:
        for (int k = random.nextInt(9); k > 0; k--) {
          call("feed", random.nextInt(), random.nextInt(), random.nextInt() & 0xff00ff, 0, random.nextInt(3) == 0 ? -1 : 32);
        }
        call("end", near(0, 100));
        call("fault", random.nextInt(3));
        break;
    }
  }

  private void act() {
    switch (random.nextInt(12)) {
      case 0: case 1: case 2: call("go", random.nextInt(8) == 0 ? near(1, 100) : 1 + random.nextInt(6)); break;
      case 3: case 4: call("breaks", aCrane(), random.nextInt(2)); break;
      case 5: if (m.w == null || m.w.left().size() < 5 || mostTasks == 8) call("more", near(0, bays - 1), near(1, 8), near(1, 6), random.nextBoolean() ? -1 : near(0, 3)); break;
      case 6: case 7: call("follow", near(0, 3)); break;
      case 8: for (int k = upTo(3); k > 0; k--) call("undo"); break;
      case 9: call("image"); break;
      case 10: if (random.nextBoolean()) call("back"); break;
      default: text(); break;
    }
  }

  private void look() {
    switch (random.nextInt(27)) {
      case 0: call("rule", near(0, 7)); break;
      case 1: call("crane", aCrane(), near(0, 5)); break;
      case 2: call("task", aTask(), near(0, 8)); break;
      case 3: call("last"); break;
      case 4: call("where", aCrane(), random.nextBoolean() ? near(0, 20) : near(0, 300)); break;
      case 5: case 25: call("deed", aCrane(), random.nextInt(3) != 0 ? near(0, 20) : near(0, 299)); break;
      case 6: case 26: call("deeds", aCrane(), near(0, 300), near(0, 4)); break;
      case 7: call("doneBy", aTask()); break;
      case 8: call("best", aWhat()); break;
      case 9: call("easy", aWhat()); break;
      case 10: call("zones", aWhat()); break;
      case 11: call("better", near(0, 3)); break;
      case 12: call("written", near(-1, 12)); break;
      case 13: call("nearest", random.nextBoolean() ? near(0, 20) : near(0, 300)); break;
      case 14: call("swings", aCrane(), random.nextBoolean() ? near(0, 20) : near(0, 300)); break;
      case 15: call("idle", near(0, 300)); break;
      case 16: call("dearest", near(0, 1)); break;
      case 17: call("bound", near(0, 3)); break;
      case 18: call("without", aCrane()); break;
      case 19: call("slack", aTask()); break;
      case 20: call("mean", near(0, 1)); break;
      case 21: call("status", near(0, 3)); break;
      case 22: call("most", near(0, 3)); break;
      case 23: call("count", near(0, 1)); break;
      default: call("fault", near(0, 2)); break;
    }
  }

  private void all() {
    for (int k = -1; k <= 8; k++) {
      call("rule", k);
      call("status", k);
      call("most", k);
      call("bound", k);
      call("better", k);
      call("easy", k);
      call("zones", k + 10);
      call("best", k);
      call("best", k + 10);
      call("written", k);
      call("doneBy", k);
      call("slack", k);
      call("count", k);
      call("dearest", k);
      call("without", k);
      call("mean", k);
    }
    call("nearest", 300);
    for (int c = 0; c < 4; c++) {
      call("crane", c, 5);
      call("swings", c, 300);
    }
  }

  private void run(long seed) {
    if (random.nextInt(4) != 0) {
      do {
        feed(quayText());
      } while (m.fault(0) != -1);
      call("quay");
    }
    while (told.size() < 320 && wrong == 0) {
      if (random.nextInt(3) == 0) act(); else look();
      if (random.nextInt(12) == 0) text();
    }
    all();
    if (wrong != 0) System.out.println("seed " + seed);
  }
}
