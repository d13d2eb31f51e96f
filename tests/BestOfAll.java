import java.util.Random;

/** Promises 20 to 24, 29, 31: on many quays the plans that are found, against all plans gone through by the Model. */
public final class BestOfAll {
  public static void main(String[] args) {
    int runs = args.length > 0 ? Integer.parseInt(args[0]) : 400;
    long first = args.length > 1 ? Long.parseLong(args[1]) : 1;
    for (long seed = first; seed < first + runs && Check.wrong == 0; seed++) {
      Random random = new Random(seed);
      compare(random, quay(random));
      // far and crowded, with all tasks that may be left: few, as the Model goes through thousands of plans for each
      if (seed % 100 == 0) compare(random, wideQuay(random));
      if (Check.wrong != 0) System.out.println("seed " + seed);
    }
    Check.ends("BestOfAll");
  }

  private static String quay(Random random) {
    int cranes = 1 + random.nextInt(4);
    int gap = 1 + random.nextInt(3);
    int needed = (cranes - 1) * gap + 1;
    int bays = Math.max(2, Math.min(30, needed + random.nextInt(9)));
    StringBuilder sb = new StringBuilder("bays " + bays + ";gap " + gap);
    int free = bays - needed;
    int at = 0;
    for (int c = 0; c < cranes; c++) {
      int skip = random.nextInt(free + 1);
      free -= skip;
      at += skip;
      sb.append(";crane ").append(at);
      if (random.nextInt(4) == 0) sb.append(" lift ").append(2 + random.nextInt(4));
      at += gap;
    }
    for (int t = 0; t < (cranes < 3 ? 5 : 4); t++) {
      sb.append(";task at ").append(random.nextInt(bays)).append(" takes ").append(1 + random.nextInt(5));
      if (random.nextInt(4) == 0) sb.append(" heavy ").append(1 + random.nextInt(5));
      for (int k = 0; k < 2 && t > 0; k++) if (random.nextInt(4) == 0) sb.append(" after ").append(random.nextInt(t));
    }
    return sb.toString();
  }

  private static String wideQuay(Random random) {
    int cranes = 3 + random.nextInt(2);
    int gap = 1 + random.nextInt(5);
    int at = random.nextInt(3);
    StringBuilder sb = new StringBuilder();
    for (int c = 0; c < cranes; c++) {
      sb.append(";crane ").append(at);
      at += gap + (c + 1 < cranes ? random.nextInt(3) : 0);
    }
    int bays = Math.min(30, at + random.nextInt(31));
    for (int t = 0; t < 5; t++) {
      sb.append(";task at ").append(random.nextInt(bays)).append(" takes ").append(1 + random.nextInt(30));
      if (t > 0 && random.nextInt(3) == 0) sb.append(" after ").append(random.nextInt(t));
    }
    return sb.insert(0, "bays " + bays + ";gap " + gap).toString();
  }

  private static void compare(Random random, String text) {
    QuayCranes x = Check.quay(text);
    Model m = new Model();
    for (int from = 0; from < text.length(); from += 20) m.feed(Check.packed(text, from));
    m.quay();
    int cranes = m.rule(2);
    if (random.nextBoolean()) {
      Check.eq(24, "follow(0) of " + text, x.follow(0), m.follow(0));
      int n = 1 + random.nextInt(7);
      Check.eq(7, "go(" + n + ")", x.go(n), m.go(n));
    }
    for (int k = random.nextInt(3); k > 0; k--) {
      int c = random.nextInt(cranes);
      Check.eq(8, "breaks(" + c + ", true)", x.breaks(c, true), m.breaks(c, true));
    }
    for (int k = -1; k < 18; k++) {
      Check.eq(20, "best(" + k + ") of " + text, x.best(k), m.best(k));
      Check.eq(21, "easy(" + k + ") of " + text, x.easy(k), m.easy(k));
      Check.eq(22, "zones(" + k + ") of " + text, x.zones(k), m.zones(k));
      Check.eq(23, "better(" + k + ") of " + text, x.better(k), m.better(k));
    }
    for (int c = 0; c < cranes && cranes > 1; c++) Check.eq(31, "without(" + c + ") of " + text, x.without(c), m.without(c));
    for (int k = 0; k < 2; k++) Check.eq(29, "dearest(" + k + ") of " + text, x.dearest(k), m.dearest(k));
  }
}
