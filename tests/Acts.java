/** Promises 6 to 12, 18, 34 to 37, 39: acts, what is so behind them, acts undone, images, refusals. */
public final class Acts {
  private static final String QUAY = "bays 10;gap 2;crane 1;crane 5;task at 3 takes 2;task at 6 takes 3 after 0";

  public static void main(String[] args) {
    plan();
    go();
    breaks();
    more();
    rule();
    crane();
    task();
    tried();
    undo();
    undoOfEach();
    image();
    status();
    count();
    Check.ends("Acts");
  }

  private static String refused(QuayCranes x) {
    return x.status(0) + " " + x.status(1) + " " + x.status(2) + " " + x.status(3);
  }

  private static void plan() {
    QuayCranes none = Check.tape(new QuayCranes(), "0 0");
    Check.eq(6, "plan() without a QUAY", none.plan(), -1000000);
    Check.row(6, "status", refused(none), "1 0 0 0");
    Check.eq(6, "the tape stays", none.count(0), 3);
    QuayCranes x = Check.quay(QUAY);
    Check.eq(6, "plan()", Check.tape(x, "1 1;0 0").plan(), 9);
    Check.eq(6, "the tape is empty", x.count(0), 0);
    Check.row(6, "written", Check.written(x), "0 0;1 1");
    Check.eq(6, "plan() with a fault", Check.tape(x, "1 1;0 2").plan(), -1000000);
    Check.eq(6, "the tape stays", x.count(0), 7);
    Check.row(6, "the plan stays", Check.written(x), "0 0;1 1");
    Check.row(6, "status", refused(x), "0 1 0 0");
    Check.eq(6, "plan() in place of the one before", Check.tape(x, "1 0 1").plan(), 14);
    Check.row(6, "written", Check.written(x), "0;1 0 1");
    Check.eq(6, "plan() that never ends", Check.tape(x, "1 1 0").plan(), -1);
    Check.eq(6, "it holds all the same", x.rule(7), 3);
    Check.eq(6, "plan() of no lines", Check.tape(x, " ").plan(), 0);
    Check.row(6, "written", Check.written(x), "0;1");
    Check.eq(6, "acts", x.count(1), 4);
  }

  private static void go() {
    Check.eq(7, "go(1) without a QUAY", new QuayCranes().go(1), -1);
    QuayCranes x = Check.planned(QUAY, "0 0;1 1");
    Check.eq(7, "go(0)", x.go(0), -1);
    Check.eq(7, "go(101)", x.go(101), -1);
    Check.eq(7, "go(min)", x.go(Integer.MIN_VALUE), -1);
    Check.eq(7, "go(max)", x.go(Integer.MAX_VALUE), -1);
    Check.row(7, "status", refused(x), "0 4 0 0");
    Check.eq(7, "go(1)", x.go(1), 1);
    Check.eq(7, "go(2)", x.go(2), 3);
    Check.eq(7, "crane(0, 0)", x.crane(0, 0), 3);
    Check.eq(7, "crane(1, 0)", x.crane(1, 0), 6);
    Check.eq(7, "go(100)", x.go(100), 103);
    Check.eq(7, "all done", x.rule(5), 3);
    for (int k = 0; k < 3; k++) x.go(100);
    Check.eq(7, "go(98) beyond 500", x.go(98), -1);
    Check.eq(7, "the minute stays", x.rule(4), 403);
    Check.eq(7, "go(97) to 500", x.go(97), 500);
    Check.eq(7, "go(1) beyond 500", x.go(1), -1);
    Check.row(7, "status", refused(x), "0 6 0 0");
    Check.eq(7, "where(0, 300) goes on", x.where(0, 300), 3);
  }

  private static void breaks() {
    QuayCranes x = Check.planned(QUAY, "0 0;1 1");
    Check.eq(8, "breaks(0, true) without a QUAY", new QuayCranes().breaks(0, true), -1);
    Check.eq(8, "breaks(1, false)", x.breaks(1, false), -1);
    Check.row(8, "status", refused(x), "0 0 1 0");
    Check.eq(8, "breaks(1, true)", x.breaks(1, true), 1);
    Check.eq(8, "breaks(1, true) again", x.breaks(1, true), -1);
    Check.eq(8, "breaks(2, true)", x.breaks(2, true), -1);
    Check.eq(8, "breaks(-1, true)", x.breaks(-1, true), -1);
    Check.eq(8, "breaks(32, true)", x.breaks(32, true), -1);
    Check.row(8, "status", refused(x), "3 0 2 0");
    Check.eq(8, "rule(6)", x.rule(6), 2);
    Check.eq(8, "breaks(0, true)", x.breaks(0, true), 2);
    Check.eq(8, "breaks(1, false)", x.breaks(1, false), 1);
    Check.eq(8, "rule(6)", x.rule(6), 1);
    x.go(6);
    Check.eq(8, "a broken one did nothing", x.task(0, 4) + x.crane(0, 0), 1);
    x.breaks(0, false);
    x.go(6);
    Check.eq(8, "a mended one works", x.task(0, 8), 0);
  }

  private static void more() {
    Check.eq(9, "more(0, 1, 1, -1) without a QUAY", new QuayCranes().more(0, 1, 1, -1), -1);
    QuayCranes x = Check.quay(QUAY);
    Check.eq(9, "more(9, 30, 99, 1)", x.more(9, 30, 99, 1), 2);
    Check.row(9, "task(2, ..)", x.task(2, 0) + " " + x.task(2, 1) + " " + x.task(2, 2) + " " + x.task(2, 3) + " "
        + x.task(2, 4) + " " + x.task(2, 5) + " " + x.task(2, 6) + " " + x.task(2, 7), "9 30 99 2 0 0 -1 -1");
    Check.eq(9, "more(0, 1, 1, -1)", x.more(0, 1, 1, -1), 3);
    Check.eq(9, "task(3, 3)", x.task(3, 3), 0);
    int[][] notThere = {{10, 1, 1, -1}, {-1, 1, 1, -1}, {0, 1, 1, 4}, {0, 1, 1, -2}, {99, 0, 0, -1}, {0, 31, 1, 8}};
    for (int[] a : notThere) Check.eq(9, "more, not there", x.more(a[0], a[1], a[2], a[3]), -1);
    Check.row(9, "status", refused(x), "6 0 0 0");
    int[][] outOfBounds = {{0, 0, 1, -1}, {0, 31, 1, -1}, {0, 1, 0, -1}, {0, 1, 100, 1}};
    for (int[] a : outOfBounds) Check.eq(9, "more, out of bounds", x.more(a[0], a[1], a[2], a[3]), -1);
    Check.row(9, "status", refused(x), "6 4 0 0");
    Check.eq(9, "rule(3)", x.rule(3), 4);
    for (int t = 4; t < 8; t++) Check.eq(9, "more(1, 1, 1, 0)", x.more(1, 1, 1, t - 1), t);
    Check.eq(9, "more, eight are there", x.more(1, 1, 1, -1), -1);
    Check.eq(9, "more, eight and out of bounds", x.more(1, 0, 1, -1), -1);
    Check.eq(9, "more, eight and no such bay", x.more(10, 0, 1, -1), -1);
    Check.row(9, "status", refused(x), "7 5 0 1");
    Check.eq(9, "plan() of tasks more", Check.tape(x, "0 3;1").plan(), 3);
  }

  private static void rule() {
    QuayCranes x = Check.planned(QUAY, "0 0;1 1");
    int[] due = {10, 2, 2, 2, 0, 0, 0, 3};
    for (int k = 0; k < 8; k++) Check.eq(10, "rule(" + k + ")", x.rule(k), due[k]);
    for (int k : new int[] {-1, 8, Integer.MIN_VALUE, Integer.MAX_VALUE}) {
      Check.eq(10, "rule(" + k + ")", x.rule(k), -1000000);
    }
    for (int k = -1; k < 9; k++) Check.eq(10, "rule(" + k + ") without a QUAY", new QuayCranes().rule(k), -1000000);
    x.go(6);
    x.breaks(1, true);
    Check.eq(10, "rule(4)", x.rule(4), 6);
    Check.eq(10, "rule(5)", x.rule(5), 1);
    Check.eq(10, "rule(6)", x.rule(6), 2);
    Check.eq(10, "rule(7): done ones, too", x.rule(7), 3);
    Check.eq(10, "rule(1) without gap", Check.quay("bays 2;crane 0").rule(1), 1);
  }

  private static void crane() {
    QuayCranes x = Check.planned("bays 10;crane 1 lift 7;crane 5;task at 3 takes 2;task at 6 takes 3 after 0", "0 0 1");
    Check.eq(11, "crane(0, 0)", x.crane(0, 0), 1);
    Check.eq(11, "crane(0, 1)", x.crane(0, 1), 7);
    Check.eq(11, "crane(1, 1)", x.crane(1, 1), 99);
    Check.eq(11, "crane(0, 2)", x.crane(0, 2), 0);
    Check.eq(11, "crane(1, 2)", x.crane(1, 2), -1);
    Check.eq(11, "crane(0, 3)", x.crane(0, 3), 2);
    Check.eq(11, "crane(1, 3)", x.crane(1, 3), 0);
    Check.eq(11, "crane(0, 5)", x.crane(0, 5), 0);
    x.go(6);
    Check.eq(11, "crane(0, 2)", x.crane(0, 2), 1);
    Check.eq(11, "crane(0, 3): done ones, too", x.crane(0, 3), 2);
    x.breaks(0, true);
    Check.eq(11, "crane(0, 2): broken", x.crane(0, 2), 1);
    for (int c : new int[] {-1, 2, 4, Integer.MIN_VALUE, Integer.MAX_VALUE}) {
      Check.eq(11, "crane(" + c + ", 0) throws", Check.throwsNone(x, c, 0), 1);
      Check.eq(11, "crane(0, w) throws", Check.throwsNone(x, 0, c == 2 ? 6 : c == 4 ? 7 : c), 1);
    }
    for (int w = 0; w < 6; w++) Check.eq(11, "crane(1, " + w + ") throws nothing", Check.throwsNone(x, 1, w), 0);
    Check.eq(11, "crane(0, 0) without a QUAY throws", Check.throwsNone(new QuayCranes(), 0, 0), 1);
  }

  private static void task() {
    QuayCranes x = Check.quay("bays 9;crane 1;crane 5;task at 3 takes 2 heavy 8;task at 6 takes 1;task at 0 takes 30 after 1 after 0 after 1");
    int[] due = {0, 30, 1, 3, 0, 0, -1, -1, -1};
    for (int k = 0; k < 9; k++) Check.eq(12, "task(2, " + k + ")", x.task(2, k), due[k]);
    Check.eq(12, "task(0, 2)", x.task(0, 2), 8);
    Check.tape(x, "0 0 2;1 1").plan();
    Check.eq(12, "task(2, 6)", x.task(2, 6), 0);
    Check.eq(12, "task(1, 6)", x.task(1, 6), 1);
    x.go(5);
    Check.eq(12, "task(0, 4)", x.task(0, 4), 1);
    Check.eq(12, "task(0, 5)", x.task(0, 5), 0);
    Check.eq(12, "task(0, 7)", x.task(0, 7), -1);
    Check.eq(12, "task(1, 7)", x.task(1, 7), 3);
    Check.eq(12, "task(1, 8)", x.task(1, 8), 1);
    // another crane ends what this one began
    Check.tape(x, "1 0").plan();
    Check.eq(12, "task(1, 6): told no more", x.task(1, 6), -1);
    Check.eq(12, "task(1, 8): done all the same", x.task(1, 8), 1);
    x.go(20);
    Check.eq(12, "task(0, 8)", x.task(0, 8), 1);
    Check.eq(12, "task(0, 4)", x.task(0, 4), 2);
    Check.eq(12, "task(0, 5)", x.task(0, 5), 1);
    Check.eq(12, "task(0, 9)", x.task(0, 9), -1);
    Check.eq(12, "task(0, -1)", x.task(0, -1), -1);
    Check.eq(12, "task(3, 0)", x.task(3, 0), -1);
    Check.eq(12, "task(-1, 0)", x.task(-1, 0), -1);
    Check.eq(12, "task(min, 0)", x.task(Integer.MIN_VALUE, 0), -1);
    Check.eq(12, "task(0, 0) without a QUAY", new QuayCranes().task(0, 0), -1);
  }

  private static void tried() {
    QuayCranes x = Check.planned(QUAY, "0 0;1 1");
    String was = Check.state(x);
    Check.eq(18, "tried()", Check.tape(x, "1 0 1").tried(), 14);
    Check.eq(18, "the tape is empty", x.count(0), 0);
    Check.row(18, "all stays", Check.state(x), was);
    Check.eq(18, "acts", x.count(1), 1);
    Check.eq(18, "tried() that never ends", Check.tape(x, "1 1 0").tried(), -1);
    Check.eq(18, "tried() of no lines", x.tried(), 0);
    Check.eq(18, "tried() with a fault", Check.tape(x, "1 1 1").tried(), -1000000);
    Check.eq(18, "the tape stays", x.count(0), 5);
    Check.eq(18, "tried() without a QUAY", new QuayCranes().tried(), -1000000);
    Check.row(18, "no act: not counted", refused(x), "0 0 0 0");
    x.go(6);
    Check.eq(18, "tried() as things are now", Check.tape(x, "1 1").tried(), 3);
    x.breaks(1, true);
    Check.eq(18, "tried() of a broken one", Check.tape(x, "1 1").tried(), -1);
    Check.eq(18, "last() of the one that holds", x.last(), -1);
  }

  private static void undo() {
    Check.eq(34, "undo() without a QUAY", new QuayCranes().undo(), -1);
    QuayCranes x = Check.planned(QUAY, "0 0;1 1");
    String[] was = new String[13];
    for (int k = 0; k < 13; k++) {
      was[k] = Check.state(x);
      x.go(1);
    }
    Check.eq(34, "the latest 10", x.count(1), 10);
    for (int k = 12; k >= 3; k--) {
      Check.eq(34, "undo()", x.undo(), k - 3);
      Check.row(34, "state of minute " + k, Check.state(x), was[k]);
    }
    Check.eq(34, "undo(): none", x.undo(), -1);
    Check.row(34, "nothing changes", Check.state(x), was[3]);
    // and again round the ring
    for (int k = 3; k < 8; k++) x.go(1);
    Check.eq(34, "count(1)", x.count(1), 5);
    Check.eq(34, "undo()", x.undo(), 4);
    Check.row(34, "state", Check.state(x), was[7]);
    Check.eq(34, "a refused call is no act", x.go(0) + x.undo(), 2);
  }

  private static void undoOfEach() {
    QuayCranes x = Check.quay(QUAY);
    String was = Check.state(x);
    Check.tape(x, "0 0").plan();
    Check.eq(34, "undo() of a plan", x.undo(), 0);
    Check.row(34, "state", Check.state(x), was);
    x.breaks(0, true);
    String broken = Check.state(x);
    x.breaks(0, false);
    Check.eq(34, "undo() of mended", x.undo(), 1);
    Check.row(34, "state", Check.state(x), broken);
    Check.eq(34, "undo() of broken", x.undo(), 0);
    Check.row(34, "state", Check.state(x), was);
    x.more(1, 1, 1, -1);
    Check.tape(x, "0 2").plan();
    x.go(100);
    Check.eq(34, "rule(5)", x.rule(5), 4);
    Check.eq(34, "undo() of go", x.undo(), 2);
    Check.eq(34, "rule(5)", x.rule(5), 0);
    Check.eq(34, "undo() of plan", x.undo(), 1);
    Check.eq(34, "undo() of more", x.undo(), 0);
    Check.row(34, "state", Check.state(x), was);
    x.follow(2);
    Check.eq(34, "undo() of follow", x.undo(), 0);
    Check.row(34, "state", Check.state(x), was);
  }

  private static void image() {
    QuayCranes none = new QuayCranes();
    Check.eq(35, "image() without a QUAY", none.image(), -1);
    Check.eq(36, "back() without an image", none.back(), -1);
    QuayCranes x = Check.planned(QUAY, "0 0;1 1");
    Check.eq(36, "back() without an image", x.back(), -1);
    x.go(5);
    Check.eq(35, "image()", x.image(), 5);
    String was = Check.state(x);
    x.go(50);
    x.breaks(0, true);
    x.more(1, 1, 1, 1);
    Check.tape(x, "1 2").plan();
    Check.eq(36, "back()", x.back(), 5);
    Check.row(36, "all is so again", Check.state(x), was);
    Check.eq(36, "no act can be undone", x.count(1), 0);
    Check.eq(36, "undo()", x.undo(), -1);
    x.go(1);
    Check.eq(36, "back() again", x.back(), 5);
    Check.row(36, "all is so again", Check.state(x), was);
    x.go(2);
    Check.eq(35, "image() instead", x.image(), 7);
    Check.eq(35, "an image is no act", x.count(1), 1);
    x.undo();
    Check.eq(36, "undo() leaves the image", x.back(), 7);
    x.go(0);
    x.back();
    Check.eq(36, "refusals are kept", x.status(1), 1);
  }

  private static void status() {
    QuayCranes x = new QuayCranes();
    x.plan();
    x.go(0);
    x.breaks(0, true);
    x.more(0, 0, 0, 0);
    x.follow(9);
    Check.row(37, "status without a QUAY", refused(x), "5 0 0 0");
    x.quay();
    x.tried();
    x.moves();
    x.image();
    x.back();
    x.undo();
    x.best(99);
    x.feed(0, 0, 0, 0, 0);
    x.end(9);
    Check.row(37, "others don't count", refused(x), "5 0 0 0");
    Check.tape(x, QUAY).quay();
    Check.row(37, "a new QUAY leaves them", refused(x), "5 0 0 0");
    x.follow(4);
    x.follow(-1);
    x.follow(3);
    Check.tape(x, "x").plan();
    x.go(101);
    x.more(1, 31, 1, -1);
    Check.row(37, "out of bounds", refused(x), "5 6 0 0");
    x.breaks(1, false);
    Check.row(37, "so already", refused(x), "5 6 1 0");
    for (int k = 0; k < 7; k++) x.more(1, 1, 1, -1);
    Check.row(37, "no room", refused(x), "5 6 1 1");
    x.follow(2);
    Check.row(37, "more than five for BEST", refused(x), "5 7 1 1");
    for (int k : new int[] {-1, 4, Integer.MIN_VALUE, Integer.MAX_VALUE}) Check.eq(37, "status(" + k + ")", x.status(k), -1);
  }

  private static void count() {
    QuayCranes x = Check.tape(new QuayCranes(), "bays 10");
    Check.eq(39, "count(0)", x.count(0), 7);
    Check.eq(39, "count(1)", x.count(1), 0);
    Check.tape(x, QUAY).quay();
    x.go(1);
    x.go(1);
    Check.eq(39, "count(0)", x.count(0), 0);
    Check.eq(39, "count(1)", x.count(1), 2);
    for (int k : new int[] {-1, 2, Integer.MIN_VALUE, Integer.MAX_VALUE}) Check.eq(39, "count(" + k + ")", x.count(k), -1);
  }
}
