/** Promises 13 to 17, 26 to 28 and the sways of 11: what happens in a minute, by hand. */
public final class Minutes {
  private static final String QUAY = "bays 10;gap 2;crane 1;crane 5;task at 3 takes 2;task at 6 takes 3 after 0";

  public static void main(String[] args) {
    ordinary();
    pushes();
    workersAndBrokenOnesStay();
    waitsThenIsPushed();
    pushedOffItsBay();
    crossing();
    noneIn300();
    lastOf300();
    sways();
    withoutAPlan();
    wrongInputs();
    Check.ends("Minutes");
  }

  private static void ordinary() {
    QuayCranes x = Check.planned(QUAY, "0 0;1 1");
    Check.eq(13, "last()", x.last(), 9);
    Check.row(14, "where(0, ..)", Check.wheres(x, 0, 9), "1 2 3 3 3 3 3 3 3 3");
    Check.row(14, "where(1, ..)", Check.wheres(x, 1, 9), "5 6 6 6 6 6 6 6 6 6");
    Check.eq(14, "where(0, 300)", x.where(0, 300), 3);
    // 2.625 is calm enough behind two minutes
    Check.row(15, "deed(0, ..)", Check.deeds(x, 0, 9), "1 1 3 3 4 4 0 0 0");
    Check.row(15, "deed(1, ..)", Check.deeds(x, 1, 9), "1 3 3 3 3 3 4 4 4");
    Check.eq(15, "deed(1, 299)", x.deed(1, 299), 0);
    Check.eq(16, "deeds(0, 9, 0)", x.deeds(0, 9, 0), 3);
    Check.eq(16, "deeds(0, 2, 1)", x.deeds(0, 2, 1), 2);
    Check.eq(16, "deeds(0, 1, 1)", x.deeds(0, 1, 1), 1);
    Check.eq(16, "deeds(0, 0, 1)", x.deeds(0, 0, 1), 0);
    Check.eq(16, "deeds(0, 300, 0)", x.deeds(0, 300, 0), 294);
    Check.eq(16, "deeds(1, 300, 4)", x.deeds(1, 300, 4), 3);
    Check.eq(16, "deeds(1, 8, 4)", x.deeds(1, 8, 4), 2);
    Check.eq(16, "deeds(1, 300, 3)", x.deeds(1, 300, 3), 5);
    Check.eq(17, "doneBy(0)", x.doneBy(0), 6);
    Check.eq(17, "doneBy(1)", x.doneBy(1), 9);
    Check.eq(26, "nearest(0)", x.nearest(0), 2);
    Check.eq(26, "nearest(1)", x.nearest(1), 2);
    Check.eq(26, "nearest(2)", x.nearest(2), 1);
    Check.eq(26, "nearest(300)", x.nearest(300), 1);
    Check.eq(27, "swings(0, 0)", x.swings(0, 0), 0);
    Check.eq(27, "swings(0, 1)", x.swings(0, 1), 0x3fc00000);
    Check.eq(27, "swings(0, 2)", x.swings(0, 2), 0x40280000);
    Check.eq(27, "swings(0, 300)", x.swings(0, 300), 0x40280000);
    Check.eq(27, "swings(1, 300)", x.swings(1, 300), 0x3fc00000);
    Check.eq(28, "idle(0)", x.idle(0), 0);
    Check.eq(28, "idle(4)", x.idle(4), 4);
    Check.eq(28, "idle(6)", x.idle(6), 4);
    Check.eq(28, "idle(300)", x.idle(300), 295);
    x.go(6);
    Check.eq(13, "last() from then", x.last(), 3);
    Check.eq(17, "doneBy(0): it is", x.doneBy(0), 0);
    Check.eq(17, "doneBy(1) from then", x.doneBy(1), 3);
    x.go(3);
    Check.eq(13, "last(): all are done", x.last(), 0);
    Check.eq(17, "doneBy(1): it is", x.doneBy(1), 0);
  }

  private static void pushes() {
    QuayCranes x = Check.planned("bays 6;crane 0;crane 1;crane 2;task at 3 takes 1", "0 0");
    Check.row(14, "where(0, ..)", Check.wheres(x, 0, 6), "0 1 2 3 3 3 3");
    Check.row(14, "where(1, ..)", Check.wheres(x, 1, 6), "1 2 3 4 4 4 4");
    Check.row(14, "where(2, ..)", Check.wheres(x, 2, 6), "2 3 4 5 5 5 5");
    Check.row(15, "deed(0, ..)", Check.deeds(x, 0, 7), "1 1 1 3 3 4 0");
    Check.row(15, "deed(1, ..)", Check.deeds(x, 1, 7), "2 2 2 0 0 0 0");
    Check.row(15, "deed(2, ..)", Check.deeds(x, 2, 7), "2 2 2 0 0 0 0");
    Check.eq(27, "swings(2, 3): pushed ones swing, too", x.swings(2, 3), Float.floatToIntBits(3.46875f));
    Check.eq(13, "last()", x.last(), 6);
    // the last one has no bay to be pushed on to
    QuayCranes y = Check.planned("bays 5;crane 0;crane 1;crane 2;task at 3 takes 1", "0 0");
    Check.row(14, "where(0, ..)", Check.wheres(y, 0, 5), "0 1 2 2 2 2");
    Check.row(15, "deed(0, ..)", Check.deeds(y, 0, 5), "1 1 3 3 3");
    Check.row(15, "deed(2, ..)", Check.deeds(y, 2, 5), "2 2 0 0 0");
    Check.eq(13, "last()", y.last(), -1);
    Check.eq(17, "doneBy(0)", y.doneBy(0), -1);
    // with a bay more than the gap between nobody is pushed yet
    QuayCranes z = Check.planned("bays 9;gap 3;crane 1;crane 5;task at 3 takes 1", "0 0");
    Check.row(15, "deed(1, ..)", Check.deeds(z, 1, 4), "0 2 0 0");
    Check.eq(26, "nearest(300)", z.nearest(300), 0);
    // downwards, to the end of the quay
    QuayCranes d = Check.planned("bays 9;gap 2;crane 1;crane 4;task at 0 takes 1;task at 2 takes 1", "1 1 0");
    Check.row(14, "where(0, ..)", Check.wheres(d, 0, 8), "1 1 0 0 0 0 0 0 0");
    Check.row(14, "where(1, ..)", Check.wheres(d, 1, 8), "4 3 2 2 2 2 2 2 2");
    Check.row(15, "deed(1, ..)", Check.deeds(d, 1, 8), "1 1 3 3 4 3 3 3");
    Check.row(15, "deed(0, ..)", Check.deeds(d, 0, 8), "0 2 0 0 0 0 0 0");
  }

  private static void workersAndBrokenOnesStay() {
    QuayCranes x = Check.planned("bays 8;crane 1;crane 2;task at 2 takes 3;task at 4 takes 1", "0 1;1 0");
    Check.row(15, "deed(0, ..)", Check.deeds(x, 0, 10), "3 3 3 1 1 1 3 3 4 0");
    Check.row(15, "deed(1, ..)", Check.deeds(x, 1, 10), "4 4 4 2 2 2 0 0 0 0");
    Check.eq(13, "last()", x.last(), 9);
    x.breaks(1, true);
    Check.row(15, "deed(0, ..): the other one is broken", Check.deeds(x, 0, 4), "3 3 3 3");
    Check.row(15, "deed(1, ..): broken ones rest", Check.deeds(x, 1, 4), "0 0 0 0");
    x.breaks(1, false);
    x.breaks(0, true);
    Check.row(15, "deed(0, ..): broken ones rest", Check.deeds(x, 0, 4), "0 0 0 0");
    // a row with a broken one in it can't be pushed, and nobody of it moves
    QuayCranes y = Check.planned("bays 9;crane 0;crane 1;crane 2;task at 3 takes 1", "0 0");
    y.breaks(2, true);
    Check.row(14, "where(1, ..)", Check.wheres(y, 1, 3), "1 1 1 1");
    Check.row(15, "deed(0, ..)", Check.deeds(y, 0, 3), "3 3 3");
  }

  /** Crane 0 can't push the one that can't go on; then it is pushed itself: that is its deed. */
  private static void waitsThenIsPushed() {
    QuayCranes x = Check.planned(
        "bays 9;crane 3;crane 4;crane 5;task at 8 takes 1;task at 0 takes 1;task at 5 takes 3", "0 0;1 1;2 2");
    Check.row(15, "deed(0, ..)", Check.deeds(x, 0, 4), "2 1 2 1");
    Check.row(15, "deed(1, ..)", Check.deeds(x, 1, 4), "1 2 1 2");
    Check.row(15, "deed(2, ..)", Check.deeds(x, 2, 4), "4 4 4 0");
    Check.row(14, "where(0, ..)", Check.wheres(x, 0, 4), "3 2 3 2 3");
  }

  /** Who waits at the bay of its task (for another, or to be calm) can be pushed off it. */
  private static void pushedOffItsBay() {
    QuayCranes x = Check.planned("bays 9;crane 2;crane 3;task at 4 takes 1;task at 3 takes 1 after 0", "0 0;1 1");
    // at 5 crane 1 wants back, and pushes crane 0 away ahead of its work, again and again
    Check.row(14, "where(0, ..)", Check.wheres(x, 0, 6), "2 3 4 3 4 3 4");
    Check.row(14, "where(1, ..)", Check.wheres(x, 1, 6), "3 4 5 4 5 4 5");
    Check.row(15, "deed(0, ..)", Check.deeds(x, 0, 6), "1 1 2 1 2 1");
    Check.row(15, "deed(1, ..)", Check.deeds(x, 1, 6), "2 2 1 2 1 2");
    Check.eq(13, "last()", x.last(), -1);
  }

  /** Both want to where the other is: the lower one has its way, until there is no bay to push on to. */
  private static void crossing() {
    QuayCranes x = Check.planned("bays 6;crane 1;crane 2;task at 5 takes 1;task at 0 takes 1", "0 0;1 1");
    Check.row(14, "where(0, ..)", Check.wheres(x, 0, 5), "1 2 3 4 3 4");
    Check.row(15, "deed(0, ..)", Check.deeds(x, 0, 5), "1 1 1 2 1");
    Check.row(15, "deed(1, ..)", Check.deeds(x, 1, 5), "2 2 2 1 2");
    Check.eq(13, "last()", x.last(), -1);
  }

  private static void noneIn300() {
    QuayCranes x = Check.planned("bays 9;crane 1;crane 5;task at 3 takes 2;task at 1 takes 1 after 0", "0 1 0");
    Check.eq(13, "last(): behind itself", x.last(), -1);
    Check.eq(17, "doneBy(1)", x.doneBy(1), -1);
    Check.eq(16, "deeds(0, 300, 3)", x.deeds(0, 300, 3), 300);
    Check.tape(x, "0 1");
    Check.eq(13, "plan(): what it is behind isn't told", x.plan(), -1);
    Check.tape(x, "1 0");
    Check.eq(13, "plan(): the other isn't told", x.plan(), 6);
    Check.eq(17, "doneBy(1): it isn't told", x.doneBy(1), -1);
  }

  /** Eight tasks of 30 minutes fill 240; bays between them the rest: 300 is in, 301 is not. */
  private static void lastOf300() {
    StringBuilder text = new StringBuilder("bays 30;crane 0");
    for (int t = 0; t < 7; t++) text.append(";task at ").append(t % 2 == 0 ? 0 : 3).append(" takes 30");
    String plan = "0 0 1 2 3 4 5 6 7";
    // six ways of 3 bays: 18 steps, 12 minutes to be calm and two more, as it swings already a bit; 210 of work
    for (int takes = 30; takes >= 1; takes--) {
      QuayCranes x = Check.planned(text + ";task at 29 takes " + takes, plan);
      int due = 30 + 6 * 35 + 29 + 3 + takes;
      Check.eq(13, "last() with " + takes, x.last(), due > 300 ? -1 : due);
      if (due == 300 || due == 301) {
        Check.eq(17, "doneBy(7) with " + takes, x.doneBy(7), due > 300 ? -1 : due);
        Check.eq(15, "deed(0, 299) with " + takes, x.deed(0, 299), 4);
      }
    }
  }

  private static void sways() {
    QuayCranes x = Check.planned("bays 9;crane 0;task at 1 takes 1", "0 0");
    Check.row(15, "deed(0, ..): 1.5 wants a minute", Check.deeds(x, 0, 4), "1 3 4 0");
    Check.eq(11, "crane(0, 4)", x.crane(0, 4), 0);
    x.go(1);
    Check.eq(11, "crane(0, 4)", x.crane(0, 4), 15);
    Check.eq(11, "crane(0, 5)", x.crane(0, 5), 0x3fc00000);
    Check.eq(27, "swings(0, 5): now, too", x.swings(0, 5), 0x3fc00000);
    x.go(1);
    Check.eq(11, "crane(0, 4): cut", x.crane(0, 4), 7);
    x.go(100);
    x.go(24);
    Check.eq(11, "crane(0, 5) behind 125", x.crane(0, 5), 2 << 23 | 1 << 22);
    x.go(1);
    Check.eq(11, "crane(0, 5) behind 126", x.crane(0, 5), 1 << 23 | 1 << 22);
    x.go(1);
    Check.eq(11, "crane(0, 5) behind 127: too small for a whole mantissa", x.crane(0, 5), 3 << 21);
    Check.eq(27, "swings(0, 9)", x.swings(0, 9), 3 << 21);
    x.go(21);
    Check.eq(11, "crane(0, 5) behind 148", x.crane(0, 5), 3);
    x.go(1);
    Check.eq(11, "crane(0, 5) behind 149", x.crane(0, 5), 2);
    x.go(1);
    Check.eq(11, "crane(0, 5) behind 150", x.crane(0, 5), 1);
    x.go(1);
    Check.eq(11, "crane(0, 5) behind 151", x.crane(0, 5), 0);
    // long ways: it comes near to 6
    QuayCranes far = Check.planned("bays 30;crane 0;task at 29 takes 1", "0 0");
    float sway = 0f;
    for (int m = 0; m < 29; m++) {
      sway *= 0.75f;
      sway += 1.5f;
    }
    Check.eq(27, "swings(0, 300)", far.swings(0, 300), Float.floatToIntBits(sway));
    Check.eq(13, "last(): 29 steps, three to be calm, one", far.last(), 33);
    // exactly 1 is not below 1: 2.625 halved twice is .65625, halved once is not
    QuayCranes two = Check.planned("bays 9;crane 0;task at 2 takes 1", "0 0");
    Check.row(15, "deed(0, ..)", Check.deeds(two, 0, 6), "1 1 3 3 4 0");
  }

  private static void withoutAPlan() {
    QuayCranes x = Check.quay(QUAY);
    Check.eq(13, "last()", x.last(), 0);
    Check.eq(14, "where(1, 300)", x.where(1, 300), 5);
    Check.eq(15, "deed(0, 0)", x.deed(0, 0), 0);
    Check.eq(16, "deeds(0, 300, 0)", x.deeds(0, 300, 0), 300);
    Check.eq(17, "doneBy(0)", x.doneBy(0), -1);
    Check.eq(26, "nearest(300)", x.nearest(300), 2);
    Check.eq(28, "idle(300)", x.idle(300), 300);
  }

  private static void wrongInputs() {
    int[] outOfSpan = {-1, 301, Integer.MIN_VALUE, Integer.MAX_VALUE};
    QuayCranes x = Check.planned(QUAY, "0 0;1 1");
    QuayCranes none = new QuayCranes();
    Check.eq(13, "last() without a QUAY", none.last(), -1000000);
    for (int n : outOfSpan) {
      Check.eq(14, "where(0, " + n + ")", x.where(0, n), -1);
      Check.eq(15, "deed(0, " + n + ")", x.deed(0, n), -1);
      Check.eq(16, "deeds(0, " + n + ", 0)", x.deeds(0, n, 0), -1);
      Check.eq(26, "nearest(" + n + ")", x.nearest(n), -1);
      Check.eq(27, "swings(0, " + n + ")", x.swings(0, n), -1);
      Check.eq(28, "idle(" + n + ")", x.idle(n), -1);
    }
    Check.eq(15, "deed(0, 300)", x.deed(0, 300), -1);
    for (int c : new int[] {-1, 2, 4, Integer.MIN_VALUE, Integer.MAX_VALUE}) {
      Check.eq(14, "where(" + c + ", 0)", x.where(c, 0), -1);
      Check.eq(15, "deed(" + c + ", 0)", x.deed(c, 0), -1);
      Check.eq(16, "deeds(" + c + ", 9, 0)", x.deeds(c, 9, 0), -1);
      Check.eq(17, "doneBy(" + c + ")", x.doneBy(c), -1);
      Check.eq(27, "swings(" + c + ", 0)", x.swings(c, 0), -1);
    }
    Check.eq(16, "deeds(0, 9, 5)", x.deeds(0, 9, 5), -1);
    Check.eq(16, "deeds(0, 9, -1)", x.deeds(0, 9, -1), -1);
    Check.eq(14, "where(0, 0) without a QUAY", none.where(0, 0), -1);
    Check.eq(15, "deed(0, 0) without a QUAY", none.deed(0, 0), -1);
    Check.eq(16, "deeds(0, 0, 0) without a QUAY", none.deeds(0, 0, 0), -1);
    Check.eq(17, "doneBy(0) without a QUAY", none.doneBy(0), -1);
    Check.eq(26, "nearest(0) without a QUAY", none.nearest(0), -1);
    Check.eq(26, "nearest(0): one alone", Check.quay("bays 9;crane 3").nearest(0), -1);
    Check.eq(27, "swings(0, 0) without a QUAY", none.swings(0, 0), -1);
    Check.eq(28, "idle(0) without a QUAY", none.idle(0), -1);
  }
}
