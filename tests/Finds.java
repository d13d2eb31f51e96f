/** Promises 19 to 25, 29 to 33, 38: moves tried, plans looked for, bounds, what costs most. */
public final class Finds {
  private static final String QUAY = "bays 10;gap 2;crane 1;crane 5;task at 3 takes 2;task at 6 takes 3 after 0";
  private static final String SIX =
      "bays 9;crane 1;crane 5;task at 1 takes 1;task at 5 takes 1;task at 1 takes 1;task at 5 takes 1;task at 1 takes 1;task at 5 takes 1";

  public static void main(String[] args) {
    moves();
    best();
    bestOfEqualOnes();
    easy();
    easyByTheWay();
    zones();
    better();
    follow();
    written();
    dearest();
    bound();
    without();
    slack();
    far();
    mean();
    most();
    Check.ends("Finds");
  }

  private static int moved(QuayCranes x, String text) {
    return Check.tape(x, text).moves();
  }

  private static void moves() {
    QuayCranes x = Check.quay(QUAY);
    Check.eq(19, "moves()", moved(x, "1 5;2 6;2 7;1 8"), -1);
    Check.eq(19, "the tape is empty", x.count(0), 0);
    Check.eq(19, "the first line alone", moved(x, "1 5"), -1);
    Check.eq(19, "not as they stand", moved(x, "1 6;1 5"), 0);
    Check.eq(19, "not as they stand", moved(x, "2 5"), 0);
    Check.eq(19, "two bays", moved(x, "1 5;1 7"), 1);
    Check.eq(19, "two bays down", moved(x, "1 5;1 4;1 4;1 2"), 3);
    Check.eq(19, "a bay that isn't there", moved(x, "1 5;1 6;1 7;1 8;1 9;1 10"), 5);
    Check.eq(19, "the gap", moved(x, "1 5;2 4;3 4"), 2);
    Check.eq(19, "crossed", moved(x, "1 5;1 4;1 3;1 2"), 3);
    Check.eq(19, "far beyond", moved(x, "1 5;99 5"), 1);
    x.breaks(0, true);
    Check.eq(19, "a broken one stands", moved(x, "1 5;1 6"), -1);
    Check.eq(19, "a broken one goes", moved(x, "1 5;1 6;2 6"), 2);
    Check.eq(19, "moves() with a fault", moved(x, "1 5;1"), -1000000);
    Check.eq(19, "the tape stays", x.count(0), 5);
    Check.eq(19, "moves() of nothing", moved(x, ""), -1000000);
    Check.eq(19, "moves() without a QUAY", moved(new QuayCranes(), "1"), -1000000);
    Check.eq(19, "no act", x.count(1), 1);
    StringBuilder forty = new StringBuilder("1 5");
    for (int k = 1; k < 40; k++) forty.append(k == 39 ? ";1 6;" : ";1 5");
    forty.setLength(forty.length() - 1);
    Check.eq(19, "40 lines", moved(x, forty.toString()), -1);
    Check.eq(19, "41 lines", moved(x, forty + ";1 6"), -1000000);
    Check.tape(x, "1 1").plan();
    x.go(1);
    Check.eq(19, "as they stand now", moved(x, "1 6;1 5"), -1);
  }

  private static String cranes(QuayCranes x, int sort) {
    StringBuilder sb = new StringBuilder();
    for (int what = 0; what < 2; what++) {
      for (int t = 0; t < x.rule(3); t++) {
        int k = t + 10 * what;
        sb.append(sort == 0 ? x.best(k) : sort == 1 ? x.easy(k) : x.zones(k)).append(' ');
      }
    }
    return sb.toString();
  }

  private static void best() {
    QuayCranes x = Check.quay(QUAY);
    Check.eq(20, "best(-1)", x.best(-1), 9);
    Check.row(20, "best(..)", cranes(x, 0), "0 1 0 0");
    for (int k : new int[] {2, 7, 8, 9, 12, 17, 18, -2, Integer.MIN_VALUE, Integer.MAX_VALUE}) {
      Check.eq(20, "best(" + k + ")", x.best(k), -1000000);
    }
    Check.tape(x, "0 0").plan();
    x.go(4);
    Check.eq(20, "best(-1) as things are now", x.best(-1), 5);
    x.go(2);
    Check.row(20, "best(..): done ones", cranes(x, 0), "-1 1 -1 0");
    x.breaks(1, true);
    // crane 0 can't come to 6 past 5 - 2
    Check.eq(20, "best(-1): none", x.best(-1), -1);
    Check.row(20, "best(..): none", cranes(x, 0), "-1 -1 -1 -1");
    x.breaks(1, false);
    Check.tape(x, "1 1").plan();
    x.go(50);
    x.breaks(1, true);
    x.breaks(0, true);
    Check.eq(20, "best(-1): nothing is left", x.best(-1), 0);
    QuayCranes six = Check.quay(SIX);
    Check.eq(20, "best(-1): six are left", six.best(-1), -2);
    Check.eq(20, "best(15): six are left", six.best(15), -2);
    Check.eq(20, "best(6): no such one", six.best(6), -1000000);
    six.follow(0);
    six.go(1);
    Check.eq(20, "best(-1): four are left", six.best(-1), 2);
    Check.row(20, "best(..)", cranes(six, 0), "-1 -1 0 1 0 1 -1 -1 0 0 1 1");
    Check.eq(20, "best(-1) without a QUAY", new QuayCranes().best(-1), -1000000);
    Check.eq(20, "best(0) without a QUAY", new QuayCranes().best(0), -1000000);
  }

  private static void bestOfEqualOnes() {
    // four bays from both: crane 0's list ends at once in the first row
    QuayCranes x = Check.quay("bays 9;crane 0;crane 8;task at 4 takes 1");
    Check.eq(20, "best(-1)", x.best(-1), 8);
    Check.eq(20, "best(0)", x.best(0), 1);
    // any turn is as good
    QuayCranes y = Check.quay("bays 9;crane 4;task at 4 takes 2;task at 4 takes 1;task at 4 takes 3");
    Check.row(20, "best(..)", cranes(y, 0), "0 0 0 0 1 2");
    // 1 can't be ahead of 0; 2 may stand at any place
    QuayCranes z = Check.quay("bays 9;crane 4;task at 4 takes 2 heavy 9;task at 4 takes 1 after 0;task at 4 takes 3");
    Check.row(20, "best(..)", cranes(z, 0), "0 0 0 0 1 2");
    // too heavy for one
    QuayCranes h = Check.quay("bays 9;crane 4 lift 3;crane 8 lift 4;task at 4 takes 1 heavy 4");
    Check.eq(20, "best(0)", h.best(0), 1);
    QuayCranes n = Check.quay("bays 9;crane 4 lift 3;crane 8 lift 4;task at 4 takes 1 heavy 5");
    Check.eq(20, "best(-1): too heavy for all", n.best(-1), -1);
    // a broken one gets none
    QuayCranes b = Check.quay("bays 9;crane 0;crane 8;task at 4 takes 1");
    b.breaks(1, true);
    Check.eq(20, "best(0)", b.best(0), 0);
    b.breaks(0, true);
    Check.eq(20, "best(-1): all are broken", b.best(-1), -1);
  }

  private static void easy() {
    QuayCranes x = Check.quay(QUAY);
    Check.eq(21, "easy(-1)", x.easy(-1), 14);
    Check.row(21, "easy(..)", cranes(x, 1), "0 0 0 1");
    for (int k : new int[] {2, 7, 8, 9, 12, 17, 18, -2, Integer.MIN_VALUE, Integer.MAX_VALUE}) {
      Check.eq(21, "easy(" + k + ")", x.easy(k), -1000000);
    }
    x.follow(0);
    x.go(6);
    // crane 0 (at 3, 3 bays off) is asked ahead of crane 1 (1 bay off)
    Check.row(21, "easy(..): done ones", cranes(x, 1), "-1 0 -1 0");
    x.breaks(0, true);
    Check.eq(21, "easy(1): broken ones get none", x.easy(1), 1);
    x.breaks(1, true);
    Check.eq(21, "easy(-1): none", x.easy(-1), -1);
    Check.eq(21, "easy(0): none", x.easy(0), -1);
    Check.eq(21, "easy(-1) without a QUAY", new QuayCranes().easy(-1), -1000000);
    // of two as near the lowest, then the nearest from there
    QuayCranes y = Check.quay("bays 9;crane 4;task at 6 takes 1;task at 2 takes 1;task at 7 takes 1");
    Check.row(21, "easy(..)", cranes(y, 1), "0 0 0 0 2 1");
    // too heavy for crane 0
    QuayCranes h = Check.quay("bays 9;crane 4 lift 3;crane 8 lift 4;task at 4 takes 1 heavy 4;task at 0 takes 1 heavy 3");
    Check.row(21, "easy(..)", cranes(h, 1), "1 0 0 0");
    QuayCranes n = Check.quay("bays 9;crane 4 lift 3;task at 4 takes 1 heavy 4;task at 0 takes 1");
    Check.eq(21, "easy(-1): too heavy for all", n.easy(-1), -1);
    Check.eq(21, "easy(1)", n.easy(1), -1);
    Check.eq(21, "easy(-1) of six", Check.quay(SIX).easy(-1), 3);
    Check.eq(21, "easy(-1) of no tasks", Check.quay("bays 9;crane 4").easy(-1), 0);
  }

  /** Crane 1 gets its task when the other is done; told from the first, it goes there at once. */
  private static void easyByTheWay() {
    QuayCranes x = Check.quay("bays 10;gap 2;crane 1 lift 1;crane 5;task at 3 takes 2;task at 7 takes 3 heavy 2 after 0");
    Check.eq(21, "easy(-1)", x.easy(-1), 13);
    Check.eq(24, "follow(0)", x.follow(0), 9);
    Check.eq(21, "easy(-1): played apart", x.easy(-1), 13);
  }

  private static void zones() {
    QuayCranes x = Check.quay(QUAY);
    Check.eq(22, "zones(-1)", x.zones(-1), 9);
    Check.row(22, "zones(..)", cranes(x, 2), "0 1 0 0");
    for (int k : new int[] {2, 7, 8, 9, 12, 17, 18, -2, Integer.MIN_VALUE, Integer.MAX_VALUE}) {
      Check.eq(22, "zones(" + k + ")", x.zones(k), -1000000);
    }
    Check.tape(x, "0 0").plan();
    x.go(6);
    Check.row(22, "zones(..): done ones", cranes(x, 2), "-1 1 -1 0");
    // by bays, not by numbers
    QuayCranes y = Check.quay("bays 9;crane 0;crane 8;task at 6 takes 1;task at 2 takes 1");
    Check.eq(22, "zones(-1)", y.zones(-1), 5);
    Check.row(22, "zones(..)", cranes(y, 2), "1 0 0 0");
    y.breaks(0, true);
    Check.row(22, "zones(..): a broken one's is empty", cranes(y, 2), "1 1 1 0");
    y.breaks(1, true);
    Check.eq(22, "zones(-1): none", y.zones(-1), -1);
    // of one bay by numbers
    QuayCranes o = Check.quay("bays 9;crane 3;task at 3 takes 9;task at 2 takes 1;task at 3 takes 1;task at 2 takes 1");
    Check.row(22, "zones(..)", cranes(o, 2), "0 0 0 0 2 0 3 1");
    // of two as good the first row of how many
    QuayCranes t = Check.quay("bays 9;crane 0;crane 8;task at 4 takes 1");
    Check.eq(22, "zones(0)", t.zones(0), 1);
    // by bays the later one would be ahead
    QuayCranes n = Check.quay("bays 9;crane 0;task at 3 takes 1;task at 2 takes 1 after 0");
    Check.eq(22, "zones(-1): none", n.zones(-1), -1);
    Check.eq(22, "zones(0): none", n.zones(0), -1);
    Check.eq(20, "best(-1)", n.best(-1) > 0 ? 1 : 0, 1);
    // by lift
    QuayCranes h = Check.quay("bays 9;crane 0 lift 2;crane 8 lift 3;task at 2 takes 1 heavy 3;task at 6 takes 1");
    Check.row(22, "zones(..)", cranes(h, 2), "1 1 0 1");
    Check.eq(22, "zones(-1) of six", Check.quay(SIX).zones(-1), 3);
    Check.eq(22, "zones(-1) without a QUAY", new QuayCranes().zones(-1), -1000000);
    Check.eq(22, "zones(-1) of no tasks", Check.quay("bays 9;crane 4").zones(-1), 0);
  }

  private static String better(QuayCranes x) {
    return x.better(0) + " " + x.better(1) + " " + x.better(2) + " " + x.better(3);
  }

  private static void better() {
    QuayCranes x = Check.quay(QUAY);
    Check.row(23, "better without a plan", better(x), "-1 -1 -1 -1");
    Check.tape(x, "0 0 1").plan();
    Check.row(23, "better", better(x), "9 1 1 0");
    Check.row(23, "the plan stays", Check.written(x), "0 0 1;1");
    x.breaks(1, true);
    Check.row(23, "better: not to a broken one", better(x), "-1 -1 -1 -1");
    x.breaks(1, false);
    x.follow(3);
    Check.row(23, "better: none", better(x), "-1 -1 -1 -1");
    // that none ends is worse than any LAST; behind itself: turned round
    Check.tape(x, "0;1 1 0").plan();
    Check.row(23, "better than none", better(x), "9 0 0 0");
    for (int k : new int[] {-1, 4, Integer.MIN_VALUE, Integer.MAX_VALUE}) Check.eq(23, "better(" + k + ")", x.better(k), -1000000);
    Check.eq(23, "better(0) without a QUAY", new QuayCranes().better(0), -1000000);
    // places count done ones, too
    QuayCranes d = Check.planned(
        "bays 9;crane 1;crane 8;task at 1 takes 1;task at 5 takes 1;task at 2 takes 1", "0 0 1 2");
    d.go(1);
    Check.row(23, "better", better(d), "6 1 1 0");
    Check.tape(d, "0 1 2").plan();
    QuayCranes one = Check.planned("bays 9;crane 1;task at 1 takes 1;task at 5 takes 1;task at 2 takes 1", "0 0 1 2");
    one.go(1);
    int last = one.last();
    // 2 between 0 and 1: the place behind the done one, as 1 goes behind 2
    Check.row(23, "better", better(one).substring(better(one).indexOf(' ') + 1), "1 0 2");
    Check.eq(23, "better(0) is less", one.better(0) < last ? 1 : 0, 1);
    one.follow(3);
    Check.row(23, "the done one stands in its place", Check.written(one), "0 0 2 1");
    // only what is told is taken out
    QuayCranes u = Check.planned("bays 9;crane 1;crane 8;task at 1 takes 1;task at 5 takes 1", "0 0");
    Check.row(23, "better", better(u), "-1 -1 -1 -1");
  }

  private static void follow() {
    QuayCranes x = Check.quay(QUAY);
    Check.eq(24, "follow(3): none", x.follow(3), -1);
    Check.eq(24, "status(1)", x.status(1), 1);
    Check.eq(24, "no act", x.count(1), 0);
    Check.eq(24, "follow(0)", x.follow(0), 14);
    Check.row(24, "written", Check.written(x), "0 0 1;1");
    Check.eq(24, "follow(1)", x.follow(1), 9);
    Check.row(24, "written", Check.written(x), "0 0;1 1");
    x.follow(0);
    Check.eq(24, "follow(2)", x.follow(2), 9);
    Check.row(24, "written", Check.written(x), "0 0;1 1");
    x.follow(0);
    Check.eq(24, "follow(3)", x.follow(3), 9);
    Check.row(24, "written", Check.written(x), "0 0;1 1");
    Check.eq(24, "acts", x.count(1), 6);
    Check.eq(24, "follow(4)", x.follow(4), -1);
    Check.eq(24, "follow(-1)", x.follow(-1), -1);
    Check.eq(24, "status(1)", x.status(1), 3);
    x.breaks(0, true);
    x.breaks(1, true);
    for (int k = 0; k < 4; k++) Check.eq(24, "follow(" + k + "): none", x.follow(k), -1);
    Check.eq(24, "status(1)", x.status(1), 7);
    Check.row(24, "the plan stays", Check.written(x), "0 0;1 1");
    QuayCranes six = Check.quay(SIX);
    Check.eq(24, "follow(2) of six", six.follow(2), -1);
    Check.eq(24, "status(1)", six.status(1), 1);
    Check.eq(24, "follow(1) of six", six.follow(1), 3);
    QuayCranes none = new QuayCranes();
    Check.eq(24, "follow(0) without a QUAY", none.follow(0), -1);
    Check.eq(24, "status(0)", none.status(0), 1);
    // nothing is left: the lists are empty then
    QuayCranes d = Check.planned("bays 9;crane 1;task at 1 takes 1", "0 0");
    d.go(1);
    Check.eq(24, "follow(0)", d.follow(0), 0);
    Check.eq(24, "rule(7)", d.rule(7), 0);
    // EASY ends in time, its lists told from the first do not: each pushes the other off
    QuayCranes p = Check.quay("bays 9;crane 2 lift 1;crane 3;task at 4 takes 1;task at 3 takes 1 heavy 2 after 0");
    Check.eq(21, "easy(-1)", p.easy(-1) > 0 ? 1 : 0, 1);
    Check.eq(24, "follow(0): NONE, it holds all the same", p.follow(0), -1);
    Check.row(24, "written", Check.written(p), "0 0;1 1");
    Check.eq(24, "no refusal", p.status(1), 0);
    Check.eq(24, "an act", p.count(1), 1);
  }

  private static void written() {
    QuayCranes x = Check.quay("bays 9;crane 0;crane 1;crane 2;task at 4 takes 1;task at 5 takes 1;task at 6 takes 1");
    Check.eq(25, "written(-1) without a plan", x.written(-1), 5);
    Check.row(25, "written without a plan", Check.written(x), "0;1;2");
    Check.tape(x, "2 1 0;0 2").plan();
    Check.eq(25, "written(-1)", x.written(-1), 11);
    Check.row(25, "written", Check.written(x), "0 2;1;2 1 0");
    Check.eq(25, "written(0)", x.written(0), '0');
    Check.eq(25, "written(1)", x.written(1), ' ');
    Check.eq(25, "written(2)", x.written(2), '2');
    Check.eq(25, "written(3)", x.written(3), ';');
    Check.eq(25, "written(10)", x.written(10), '0');
    for (int k : new int[] {11, 12, -2, Integer.MIN_VALUE, Integer.MAX_VALUE}) Check.eq(25, "written(" + k + ")", x.written(k), -1);
    Check.eq(25, "written(-1) without a QUAY", new QuayCranes().written(-1), -1);
    Check.eq(25, "written(0) without a QUAY", new QuayCranes().written(0), -1);
    x.go(100);
    Check.row(25, "done ones, too", Check.written(x), "0 2;1;2 1 0");
  }

  private static void dearest() {
    QuayCranes x = Check.quay(QUAY);
    // without 0 crane 1 does both: 14; without 1 there is none
    Check.eq(29, "dearest(0)", x.dearest(0), 1);
    Check.eq(29, "dearest(1)", x.dearest(1), -1);
    x.breaks(1, true);
    Check.eq(29, "dearest(0): of those that aren't broken", x.dearest(0), 0);
    Check.eq(29, "dearest(1)", x.dearest(1), -1);
    x.breaks(0, true);
    Check.eq(29, "dearest(0): all are broken", x.dearest(0), -1);
    Check.eq(29, "dearest(1): all are broken", x.dearest(1), -1);
    Check.eq(29, "dearest(0) without a QUAY", new QuayCranes().dearest(0), -1000000);
    for (int k : new int[] {-1, 2, Integer.MIN_VALUE, Integer.MAX_VALUE}) Check.eq(29, "dearest(" + k + ")", x.dearest(k), -1000000);
    Check.eq(29, "dearest(0) of six", Check.quay(SIX).dearest(0), -2);
    Check.eq(29, "dearest(1) of six", Check.quay(SIX).dearest(1), -2);
    // two bays from 3, three from 8
    QuayCranes y = Check.quay("bays 12;crane 3;crane 8;task at 5 takes 1");
    Check.eq(29, "dearest(0)", y.dearest(0), 0);
    Check.eq(29, "dearest(1)", y.dearest(1), 6);
    // as good without either
    QuayCranes z = Check.quay("bays 12;crane 3;crane 7;task at 5 takes 1");
    Check.eq(29, "dearest(0): the lowest", z.dearest(0), 0);
    Check.eq(29, "dearest(1)", z.dearest(1), 5);
    QuayCranes n = Check.quay("bays 12;crane 3;crane 7");
    Check.eq(29, "dearest(0): nothing is left", n.dearest(0), 0);
    Check.eq(29, "dearest(1): nothing is left", n.dearest(1), 0);
  }

  private static String bounds(QuayCranes x) {
    return x.bound(0) + " " + x.bound(1) + " " + x.bound(2) + " " + x.bound(3);
  }

  private static void bound() {
    QuayCranes x = Check.quay(QUAY);
    Check.row(30, "bound", bounds(x), "5 5 3 3");
    x.breaks(0, true);
    Check.row(30, "bound: one is broken", bounds(x), "5 5 5 3");
    x.breaks(1, true);
    Check.row(30, "bound: all are broken", bounds(x), "-1 -1 -1 -1");
    for (int k : new int[] {-1, 4, Integer.MIN_VALUE, Integer.MAX_VALUE}) Check.eq(30, "bound(" + k + ")", x.bound(k), -1000000);
    Check.eq(30, "bound(0) without a QUAY", new QuayCranes().bound(0), -1000000);
    // rows of 3 bays: 2 to 4 hold 5 + 4 minutes; the longest way: 0, 2, 4
    QuayCranes y = Check.quay("bays 9;gap 3;crane 0;crane 4;crane 8;task at 2 takes 5;task at 8 takes 1;"
        + "task at 5 takes 2 after 0;task at 4 takes 4 after 1;task at 7 takes 3 after 2 after 3");
    Check.row(30, "bound", bounds(y), "10 10 5 9");
    Check.eq(30, "more", y.more(6, 7, 1, -1), 5);
    // 22 by 3 is 8; bays 5 to 7: 12, 4 to 6: 13
    Check.row(30, "bound", bounds(y), "13 10 8 13");
    Check.tape(y, "0 0;1 3;2 1").plan();
    y.go(5);
    // crane 2 has done 1, crane 1 then 3; it can't be pushed as it works: crane 0 waits at 1
    Check.row(30, "bound: what is left", bounds(y), "12 10 6 12");
    QuayCranes w = Check.quay("bays 2;gap 5;crane 0;task at 0 takes 1;task at 1 takes 2");
    Check.eq(30, "bound(3): all bays", w.bound(3), 3);
    QuayCranes n = Check.quay("bays 9;crane 0");
    Check.row(30, "bound without tasks", bounds(n), "0 0 0 0");
    n.breaks(0, true);
    Check.row(30, "bound without tasks, broken", bounds(n), "0 0 0 0");
  }

  private static void without() {
    QuayCranes x = Check.quay(QUAY);
    Check.eq(31, "without(0)", x.without(0), 14);
    Check.eq(31, "without(1)", x.without(1), -1);
    Check.eq(31, "rule(6): it isn't broken", x.rule(6), 0);
    Check.eq(31, "best(-1)", x.best(-1), 9);
    x.breaks(0, true);
    Check.eq(31, "without(0): broken already", x.without(0), 14);
    Check.eq(31, "without(1): no one is left", x.without(1), -1);
    for (int c : new int[] {-1, 2, Integer.MIN_VALUE, Integer.MAX_VALUE}) Check.eq(31, "without(" + c + ")", x.without(c), -1000000);
    Check.eq(31, "without(0) without a QUAY", new QuayCranes().without(0), -1000000);
    Check.eq(31, "without(0) of six", Check.quay(SIX).without(0), -2);
    Check.eq(31, "without(0): nothing is left", Check.quay("bays 9;crane 0").without(0), 0);
  }

  private static void slack() {
    QuayCranes x = Check.planned(QUAY, "0 0;1 1");
    Check.eq(32, "slack(0)", x.slack(0), 0);
    Check.eq(32, "slack(1)", x.slack(1), 0);
    Check.eq(32, "task(0, 1) stays", x.task(0, 1), 2);
    // 0 is done in 1, 1 in 11
    QuayCranes y = Check.planned("bays 9;crane 1;crane 5;task at 1 takes 1;task at 5 takes 11", "0 0;1 1");
    Check.eq(32, "slack(0)", y.slack(0), 10);
    y.go(1);
    Check.eq(32, "slack(0): it is done", y.slack(0), -1000000);
    QuayCranes z = Check.planned("bays 9;crane 1;crane 5;task at 1 takes 1;task at 5 takes 11", "1 1");
    Check.eq(32, "slack(0): it isn't told", z.slack(0), 61);
    z.breaks(1, true);
    Check.eq(32, "slack(0): LAST is none", z.slack(0), -1);
    Check.eq(32, "slack(1): LAST is none", z.slack(1), -1);
    Check.eq(32, "slack(2): LAST is none, no such one", z.slack(2), -1000000);
    for (int t : new int[] {-1, 2, 8, Integer.MIN_VALUE, Integer.MAX_VALUE}) Check.eq(32, "slack(" + t + ")", y.slack(t), -1000000);
    Check.eq(32, "slack(0) without a QUAY", new QuayCranes().slack(0), -1000000);
    // 31 lasts 62, 32 with 60 minutes more 61, with 61 more 62, with 62 more 63: 61 is as far as is looked
    for (int rest = 1; rest <= 4; rest++) {
      QuayCranes f = Check.planned("bays 9;crane 1;crane 5;task at 1 takes 1;task at 5 takes 30;task at 5 takes 30;task at 5 takes "
          + rest, "0 0;1 1 2 3");
      Check.eq(32, "slack(0) of " + (60 + rest), f.slack(0), Math.min(61, 59 + rest));
    }
    Check.eq(32, "slack(0) without a plan", Check.quay(QUAY).slack(0), 61);
  }

  /** Up to 300 minutes count: to and fro between far bays, with three minutes to be calm each time. */
  private static void far() {
    for (int takes = 28; takes <= 30; takes++) {
      int alone = takes == 30 ? -1 : 271 + takes;
      QuayCranes x = Check.quay("bays 30;crane 0;crane 29;task at 28 takes 30;task at 1 takes 30 after 0;task at 28 takes 30 after 1;"
          + "task at 1 takes 30 after 2;task at 28 takes " + takes + " after 3");
      Check.eq(31, "without(1) with " + takes, x.without(1), alone);
      Check.eq(29, "dearest(0) with " + takes, x.dearest(0), 1);
      Check.eq(29, "dearest(1) with " + takes, x.dearest(1), alone);
      x.breaks(1, true);
      Check.eq(20, "best(-1) with " + takes, x.best(-1), alone);
      Check.eq(20, "best(14) with " + takes, x.best(14), takes == 30 ? -1 : 4);
      Check.eq(21, "easy(-1) with " + takes, x.easy(-1), alone);
      Check.eq(21, "easy(14) with " + takes, x.easy(14), takes == 30 ? -1 : 4);
      Check.eq(24, "follow(0) with " + takes, x.follow(0), alone);
      Check.eq(32, "slack(4) with " + takes, x.slack(4), alone == -1 ? 61 : 0);
    }
    // down and up again: two ways of 29, three minutes to be calm behind each
    for (int takes = 25; takes <= 27; takes++) {
      StringBuilder text = new StringBuilder("bays 30;crane 29");
      for (int t = 0; t < 7; t++) text.append(";task at ").append(t < 4 ? 0 : 29).append(" takes 30");
      QuayCranes z = Check.quay(text + ";task at 29 takes " + takes);
      Check.eq(22, "zones(-1) with " + takes, z.zones(-1), takes == 27 ? -1 : 274 + takes);
      Check.eq(22, "zones(17) with " + takes, z.zones(17), takes == 27 ? -1 : 7);
    }
  }

  private static void mean() {
    QuayCranes x = Check.quay(QUAY);
    Check.eq(33, "mean(0)", x.mean(0), Double.doubleToLongBits(4.5));
    Check.eq(33, "mean(1)", x.mean(1), Double.doubleToLongBits(2.5));
    x.more(6, 30, 1, -1);
    Check.eq(33, "mean(0)", x.mean(0), Double.doubleToLongBits(5.0));
    Check.eq(33, "mean(1)", x.mean(1), Double.doubleToLongBits(35 / 3.0));
    x.more(1, 1, 1, -1);
    x.more(1, 1, 1, -1);
    x.more(1, 1, 1, -1);
    x.more(2, 1, 1, -1);
    Check.eq(33, "mean(0)", x.mean(0), Double.doubleToLongBits(20 / 7.0));
    x.follow(0);
    x.go(100);
    Check.eq(33, "mean(1): done ones, too", x.mean(1), Double.doubleToLongBits(39 / 7.0));
    QuayCranes zero = Check.quay("bays 9;crane 0;task at 0 takes 1");
    Check.eq(33, "mean(0) of 0", zero.mean(0), 0);
    Check.eq(33, "mean(1) of 1", zero.mean(1), Double.doubleToLongBits(1.0));
    QuayCranes seventh = Check.quay("bays 9;crane 0;task at 0 takes 1;task at 1 takes 1;task at 0 takes 1;task at 0 takes 1;"
        + "task at 0 takes 1;task at 0 takes 1;task at 0 takes 1");
    Check.eq(33, "mean(0) of 1 by 7", seventh.mean(0), Double.doubleToLongBits(1 / 7.0));
    for (int k : new int[] {-1, 2, Integer.MIN_VALUE, Integer.MAX_VALUE}) Check.eq(33, "mean(" + k + ")", x.mean(k), -1000000);
    Check.eq(33, "mean(0) of no tasks", Check.quay("bays 9;crane 0").mean(0), -1000000);
    Check.eq(33, "mean(0) without a QUAY", new QuayCranes().mean(0), -1000000);
  }

  private static String mosts(QuayCranes x) {
    return x.most(0) + " " + x.most(1) + " " + x.most(2) + " " + x.most(3);
  }

  private static void most() {
    QuayCranes x = Check.quay("bays 9;crane 1;crane 5;task at 2 takes 5;task at 6 takes 3;task at 6 takes 3;task at 8 takes 5");
    Check.row(38, "most without a plan", mosts(x), "0 6 0 0");
    Check.tape(x, "0 0;1 1 2").plan();
    Check.row(38, "most", mosts(x), "1 6 0 0");
    x.go(1);
    Check.row(38, "most: both swing alike", mosts(x), "1 6 0 0");
    x.go(5);
    // 0 has 1 left, 1 is done, 2 has 2 left: 5 at bay 8 is most
    Check.row(38, "most", mosts(x), "1 8 0 0");
    Check.tape(x, "0 0;1 2 3").plan();
    x.go(3);
    Check.row(38, "most: crane 1 goes to 8", mosts(x), "1 8 0 1");
    x.go(100);
    Check.row(38, "most: nothing is left; crane 1 swings a little yet", mosts(x), "0 0 0 1");
    x.go(100);
    Check.row(38, "most: no sway is left", mosts(x), "0 0 0 0");
    QuayCranes equal = Check.planned("bays 9;crane 1;crane 5;task at 6 takes 3;task at 2 takes 4;task at 2 takes 4", "0 1;1 2");
    Check.row(38, "most: the lowest", mosts(equal), "0 2 1 0");
    Check.eq(38, "most(2): none", Check.quay("bays 9;crane 0").most(2), -1);
    Check.eq(38, "most(1) of no tasks", Check.quay("bays 9;crane 0").most(1), 0);
    for (int k : new int[] {-1, 4, Integer.MIN_VALUE, Integer.MAX_VALUE}) Check.eq(38, "most(" + k + ")", x.most(k), -1);
    for (int k = 0; k < 4; k++) Check.eq(38, "most(" + k + ") without a QUAY", new QuayCranes().most(k), -1);
  }
}
