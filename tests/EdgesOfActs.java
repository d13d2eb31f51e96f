import java.util.function.Consumer;
import java.util.function.Supplier;

/** Promises 6 to 12, 34 to 37 and 39: each sentence that names a boundary of an act or of what is asked, by itself. */
public final class EdgesOfActs {
  private static final int MIN = Integer.MIN_VALUE;
  private static final int MAX = Integer.MAX_VALUE;
  private static final int HIDDEN = -1000000;
  private static final String QUAY = "bays 10;gap 2;crane 1;crane 5;task at 3 takes 2;task at 6 takes 3 after 0";
  private static final String FOUR = "bays 9;crane 0;crane 2;crane 4;crane 8";
  private static final String TASK = ";task at 0 takes 1";

  public static void main(String[] args) {
    planRefused();
    planHolds();
    planThatNeverEnds();
    goOneToHundred();
    goTo500();
    goRefused();
    breaksCranesThatAreThere();
    breaksWhatIsSoAlready();
    breaksAll();
    moreBays();
    moreMinutes();
    moreHeavy();
    moreBehind();
    moreThanEight();
    moreWhereNoneWere();
    rules();
    cranes();
    cranesSway();
    tasks();
    tasksDone();
    ofSeveralTheFirst();
    statusOfWhat();
    statusStays();
    latestTen();
    undoNone();
    undoEach();
    refusedOnesAreNoActs();
    imageOfNoQuay();
    imageInsteadOfTheOneAhead();
    backToIt();
    backOutlives();
    askedAheadOfIt();
    counts();
    Check.ends("EdgesOfActs");
  }

  /** A quay with all that a refused call may spoil: a plan, minutes, an image, acts, a broken crane, a text on the tape. */
  private static QuayCranes busy() {
    QuayCranes x = Check.planned(QUAY, "0 0;1 1");
    x.go(3);
    x.image();
    x.go(4);
    x.breaks(1, true);
    return Check.tape(x, "1 1;0 7");
  }

  private static void refused(int promise, String what, int answer, int why, Asked call) {
    Supplier<QuayCranes> made = EdgesOfActs::busy;
    Consumer<QuayCranes> asked = x -> Check.eq(promise, what, call.of(x), answer);
    Check.leaves(promise, what, made, asked, why);
  }

  private interface Asked {
    int of(QuayCranes x);
  }

  private static String statuses(QuayCranes x) {
    return x.status(0) + " " + x.status(1) + " " + x.status(2) + " " + x.status(3);
  }

  /** "HIDDEN: no QUAY (STATUS 0), a FAULT (1) (the TAPE stays)." */
  private static void planRefused() {
    refused(6, "plan() with a fault", HIDDEN, 1, QuayCranes::plan);
    for (String text : new String[] {"", "0", "x"}) {
      QuayCranes none = Check.tape(new QuayCranes(), text);
      Check.eq(6, "plan() without a QUAY", none.plan(), HIDDEN);
      Check.eq(6, "count(0): the tape stays", none.count(0), text.length());
      Check.row(6, "status", statuses(none), "1 0 0 0");
    }
    QuayCranes x = Check.planned(QUAY, "0 0;1 1");
    Check.eq(6, "plan() with a fault", Check.tape(x, "0 0;1 1 ;").plan(), HIDDEN);
    Check.eq(6, "fault(1): the tape stays", x.fault(1), 9);
    Check.eq(6, "end(7)", x.end(7) ? 1 : 0, 1);
    Check.eq(6, "plan(): what is left of it is fine", x.plan(), 9);
    Check.row(6, "status", statuses(x), "0 1 0 0");
  }

  /** "The TAPE (empty then) is the PLAN that holds (in place of the one before): LAST" */
  private static void planHolds() {
    QuayCranes x = Check.quay(QUAY);
    Check.eq(6, "plan() of no lines", x.plan(), 0);
    Check.eq(6, "an act all the same", x.count(1), 1);
    Check.eq(6, "plan()", Check.tape(x, "0 0;1 1").plan(), 9);
    Check.eq(6, "count(0): the tape is empty", x.count(0), 0);
    Check.eq(6, "plan() of one task", Check.tape(x, "0 0").plan(), 6);
    Check.row(6, "nothing is left of the one before", Check.written(x), "0 0;1");
    Check.eq(6, "rule(7)", x.rule(7), 1);
    Check.eq(6, "plan() of lines without tasks", Check.tape(x, "1;0").plan(), 0);
    Check.eq(6, "rule(7)", x.rule(7), 0);
    Check.eq(6, "the same again is an act, too", x.plan() + x.count(1), 5);
    Check.eq(6, "status(2): never", x.status(2), 0);
  }

  /** "LAST (NONE: none)" */
  private static void planThatNeverEnds() {
    QuayCranes x = Check.quay(QUAY);
    Check.eq(6, "plan()", Check.tape(x, "1 1").plan(), -1);
    Check.row(6, "it holds", Check.written(x), "0;1 1");
    Check.eq(6, "count(0): the tape is empty", x.count(0), 0);
    Check.eq(6, "count(1)", x.count(1), 1);
    Check.row(6, "status: not refused", statuses(x), "0 0 0 0");
  }

  /** "n MINUTES (1 to 100) go by: the MINUTE" */
  private static void goOneToHundred() {
    for (int n = -3; n <= 103; n++) {
      QuayCranes x = Check.planned(QUAY, "0 0;1 1");
      boolean fine = n >= 1 && n <= 100;
      Check.eq(7, "go(" + n + ")", x.go(n), fine ? n : -1);
      Check.eq(7, "rule(4)", x.rule(4), fine ? n : 0);
      Check.eq(7, "status(1)", x.status(1), fine ? 0 : 1);
      Check.eq(7, "count(1): one act", x.count(1), fine ? 2 : 1);
      Check.eq(7, "rule(5)", x.rule(5), n < 6 || !fine ? 0 : n < 9 ? 1 : 3);
      Check.eq(7, "crane(0, 0)", x.crane(0, 0), !fine ? 1 : Math.min(3, 1 + n));
    }
    QuayCranes x = Check.planned(QUAY, "0 0;1 1");
    for (int n : new int[] {MIN, MAX, -100, 200, 500, 501}) Check.eq(7, "go(" + n + ")", x.go(n), -1);
    Check.eq(7, "go(1) of nothing to do", Check.quay("bays 2;crane 0").go(1), 1);
  }

  /** "the MINUTE (500 at most)" */
  private static void goTo500() {
    for (int left = 0; left <= 101; left++) {
      QuayCranes x = Check.quay(QUAY);
      for (int k = 0; k < 4; k++) x.go(100);
      if (left < 100) x.go(100 - left);
      int minute = left < 100 ? 500 - left : 400;
      Check.eq(7, "rule(4)", x.rule(4), minute);
      int room = 500 - minute;
      Check.eq(7, "go beyond 500 from " + minute, x.go(room + 1), -1);
      Check.eq(7, "status(1)", x.status(1), 1);
      Check.eq(7, "rule(4)", x.rule(4), minute);
      Check.eq(7, "go to 500 from " + minute, x.go(room), room == 0 ? -1 : 500);
      Check.eq(7, "rule(4)", x.rule(4), 500);
      Check.eq(7, "go(1) from 500", x.go(1), -1);
    }
    QuayCranes x = Check.planned("bays 9;crane 1;task at 1 takes 2;task at 1 takes 1", "0 0");
    for (int k = 0; k < 5; k++) x.go(100);
    Check.eq(7, "an undone one makes room", x.undo(), 5);
    Check.eq(7, "go(100)", x.go(100), 500);
    Check.eq(13, "last() at 500", Check.tape(x, "0 1").plan(), 1);
    Check.eq(17, "doneBy(1) at 500", x.doneBy(1), 1);
    Check.eq(8, "breaks(0, true) at 500", x.breaks(0, true), 1);
    Check.eq(9, "more at 500", x.more(0, 1, 1, -1), 2);
  }

  /** "NONE: no QUAY (STATUS 0), out of bounds (1)." */
  private static void goRefused() {
    for (int n : new int[] {0, 101, -1, MIN, MAX}) refused(7, "go(" + n + ")", -1, 1, x -> x.go(n));
    for (int n : new int[] {0, 1, 100, 101}) {
      QuayCranes none = new QuayCranes();
      Check.eq(7, "go(" + n + ") without a QUAY", none.go(n), -1);
      Check.row(7, "status", statuses(none), "1 0 0 0");
    }
  }

  /** "NONE: no such one (STATUS 0)" */
  private static void breaksCranesThatAreThere() {
    for (int many = 1; many <= 4; many++) {
      QuayCranes x = Check.quay("bays 9" + ";crane 0;crane 2;crane 4;crane 8".substring(0, 8 * many));
      int refused = 0;
      for (int c = -2; c < 7; c++) {
        boolean there = c >= 0 && c < many;
        Check.eq(8, "breaks(" + c + ", true) of " + many, x.breaks(c, true), there ? c + 1 : -1);
        refused += there ? 0 : 1;
        Check.eq(8, "status(0)", x.status(0), refused);
      }
      for (int c : new int[] {8, 16, 31, 32, 33, 64, -32, MIN, MAX}) Check.eq(8, "breaks(" + c + ", false)", x.breaks(c, false), -1);
      Check.eq(8, "rule(6)", x.rule(6), (1 << many) - 1);
      Check.row(8, "status", statuses(x), refused + 9 + " 0 0 0");
    }
    for (int c : new int[] {-1, 2, 3, 4, 32, MIN, MAX}) {
      refused(8, "breaks(" + c + ", true)", -1, 0, x -> x.breaks(c, true));
      refused(8, "breaks(" + c + ", false)", -1, 0, x -> x.breaks(c, false));
    }
  }

  /** "it is so already (2)" */
  private static void breaksWhatIsSoAlready() {
    refused(8, "breaks(1, true)", -1, 2, x -> x.breaks(1, true));
    refused(8, "breaks(0, false)", -1, 2, x -> x.breaks(0, false));
    for (int c = 0; c < 4; c++) {
      QuayCranes x = Check.quay(FOUR);
      Check.eq(8, "breaks(" + c + ", false)", x.breaks(c, false), -1);
      Check.eq(8, "breaks(" + c + ", true)", x.breaks(c, true), 1);
      Check.eq(8, "breaks(" + c + ", true)", x.breaks(c, true), -1);
      Check.eq(8, "rule(6)", x.rule(6), 1 << c);
      Check.eq(8, "breaks(" + c + ", false)", x.breaks(c, false), 0);
      Check.eq(8, "breaks(" + c + ", false)", x.breaks(c, false), -1);
      Check.eq(8, "rule(6)", x.rule(6), 0);
      Check.row(8, "status", statuses(x), "0 0 3 0");
    }
  }

  /** "how many are BROKEN then": from none to all and back */
  private static void breaksAll() {
    QuayCranes x = Check.quay(FOUR);
    for (int c = 0; c < 4; c++) Check.eq(8, "breaks(" + c + ", true)", x.breaks(c, true), c + 1);
    Check.eq(8, "rule(6)", x.rule(6), 15);
    for (int c = 0; c < 4; c++) Check.eq(8, "breaks(" + c + ", false)", x.breaks(c, false), 3 - c);
    Check.eq(8, "count(1)", x.count(1), 8);
  }

  /** "A TASK more at a BAY" */
  private static void moreBays() {
    for (int bays : new int[] {2, 9, 10, 30}) {
      for (int bay = -2; bay < 34; bay++) {
        QuayCranes x = Check.quay("bays " + bays + ";crane 0");
        boolean there = bay >= 0 && bay < bays;
        Check.eq(9, "more(" + bay + ", ..) of " + bays, x.more(bay, 1, 1, -1), there ? 0 : -1);
        Check.eq(9, "task(0, 0)", x.task(0, 0), there ? bay : -1);
        Check.row(9, "status", statuses(x), there ? "0 0 0 0" : "1 0 0 0");
      }
    }
    for (int bay : new int[] {-1, 10, 99, MIN, MAX}) refused(9, "more(" + bay + ", 1, 1, -1)", -1, 0, x -> x.more(bay, 1, 1, -1));
  }

  /** "so many MINUTES (1 to 30)" */
  private static void moreMinutes() {
    for (int takes = -2; takes < 104; takes++) {
      QuayCranes x = Check.quay("bays 9;crane 0");
      boolean fine = takes >= 1 && takes <= 30;
      Check.eq(9, "more(0, " + takes + ", ..)", x.more(0, takes, 1, -1), fine ? 0 : -1);
      Check.eq(9, "task(0, 1)", x.task(0, 1), fine ? takes : -1);
      Check.row(9, "status", statuses(x), fine ? "0 0 0 0" : "0 1 0 0");
    }
    for (int takes : new int[] {-1, 0, 31, MIN, MAX}) refused(9, "more(0, " + takes + ", 1, -1)", -1, 1, x -> x.more(0, takes, 1, -1));
  }

  /** "HEAVY (1 to 99)" */
  private static void moreHeavy() {
    for (int heavy = -2; heavy < 104; heavy++) {
      QuayCranes x = Check.quay("bays 9;crane 0");
      boolean fine = heavy >= 1 && heavy <= 99;
      Check.eq(9, "more(0, 1, " + heavy + ", ..)", x.more(0, 1, heavy, -1), fine ? 0 : -1);
      Check.eq(9, "task(0, 2)", x.task(0, 2), fine ? heavy : -1);
      Check.row(9, "status", statuses(x), fine ? "0 0 0 0" : "0 1 0 0");
    }
    for (int heavy : new int[] {-1, 0, 100, MIN, MAX}) refused(9, "more(0, 1, " + heavy + ", -1)", -1, 1, x -> x.more(0, 1, heavy, -1));
  }

  /** "behind a TASK (NONE: none): its number", "no such ... TASK (STATUS 0)" */
  private static void moreBehind() {
    for (int many = 0; many < 8; many++) {
      for (int after = -3; after < 11; after++) {
        QuayCranes x = Check.quay("bays 9;crane 0" + TASK.repeat(many));
        boolean there = after >= -1 && after < many;
        Check.eq(9, "more(.., " + after + ") of " + many, x.more(8, 1, 1, after), there ? many : -1);
        Check.eq(9, "task(.., 3)", x.task(many, 3), !there ? -1 : after == -1 ? 0 : 1 << after);
        Check.eq(9, "rule(3)", x.rule(3), there ? many + 1 : many);
        Check.row(9, "status", statuses(x), there ? "0 0 0 0" : "1 0 0 0");
      }
    }
    for (int after : new int[] {-2, 2, 8, 32, 33, MIN, MAX}) refused(9, "more(0, 1, 1, " + after + ")", -1, 0, x -> x.more(0, 1, 1, after));
    // behind one that is done: it can be worked at once
    QuayCranes x = Check.planned("bays 9;crane 0" + TASK, "0 0");
    x.go(1);
    Check.eq(9, "more behind a done one", x.more(0, 1, 1, 0), 1);
    Check.eq(9, "plan()", Check.tape(x, "0 1").plan(), 1);
    QuayCranes y = Check.quay("bays 9;crane 0" + TASK);
    y.more(0, 1, 1, 0);
    Check.eq(9, "plan() behind one that isn't done", Check.tape(y, "0 1").plan(), -1);
    Check.eq(9, "plan() of both", Check.tape(y, "0 0 1").plan(), 2);
  }

  /** "there are eight (3)" */
  private static void moreThanEight() {
    for (int many = 0; many <= 8; many++) {
      QuayCranes x = Check.quay("bays 9;crane 0" + TASK.repeat(many));
      for (int t = many; t < 8; t++) Check.eq(9, "more", x.more(t, t + 1, 1, t - 1), t);
      Check.row(9, "status", statuses(x), "0 0 0 0");
      Check.eq(9, "more, eight are there", x.more(0, 1, 1, -1), -1);
      Check.eq(9, "more, eight are there", x.more(8, 30, 99, 7), -1);
      Check.row(9, "status", statuses(x), "0 0 0 2");
      Check.eq(9, "rule(3)", x.rule(3), 8);
    }
    Supplier<QuayCranes> full = () -> {
      QuayCranes x = busy();
      for (int k = 0; k < 6; k++) x.more(0, 1, 1, -1);
      return x;
    };
    Check.leaves(9, "more of eight", full, x -> Check.eq(9, "more of eight", x.more(0, 1, 1, -1), -1), 3);
    Check.leaves(9, "more out of bounds of eight", full, x -> Check.eq(9, "more", x.more(0, 31, 1, -1), -1), 1);
    Check.leaves(9, "more at no bay of eight", full, x -> Check.eq(9, "more", x.more(10, 31, 1, -1), -1), 0);
    QuayCranes x = full.get();
    x.undo();
    Check.eq(9, "more: an undone one makes room", x.more(0, 1, 1, 6), 7);
  }

  /** A task more leaves the plan, the minute and what is done; nobody is told it. */
  private static void moreWhereNoneWere() {
    QuayCranes x = Check.quay("bays 9;crane 0");
    Check.eq(9, "more", x.more(0, 2, 3, -1), 0);
    int[] due = {0, 2, 3, 0, 0, 0, -1, -1, -1};
    for (int what = 0; what < 9; what++) Check.eq(9, "task(0, " + what + ")", x.task(0, what), due[what]);
    Check.eq(9, "last(): it isn't told", x.last(), 0);
    Check.eq(9, "deeds(0, 300, 4)", x.deeds(0, 300, 4), 0);
    Check.eq(9, "rule(7)", x.rule(7), 0);
    // what an undone task had done is not the next one's
    QuayCranes y = Check.quay("bays 9;crane 0");
    y.more(0, 1, 1, -1);
    y.follow(0);
    y.go(1);
    Check.eq(9, "task(0, 5)", y.task(0, 5), 1);
    for (int k = 0; k < 3; k++) y.undo();
    y.more(1, 2, 1, -1);
    Check.eq(9, "task(0, 4)", y.task(0, 4), 0);
    Check.eq(9, "task(0, 5)", y.task(0, 5), 0);
    Check.eq(9, "task(0, 7)", y.task(0, 7), -1);
    Check.eq(9, "task(0, 8)", y.task(0, 8), -1);
  }

  /** "0 BAYS, .. 7 TASKS in the PLAN (bits). HIDDEN: no QUAY, no such what." */
  private static void rules() {
    QuayCranes x = Check.quay("bays 30;gap 5;crane 0;crane 5;crane 10;crane 29" + TASK.repeat(8));
    int[] due = {30, 5, 4, 8, 0, 0, 0, 0};
    for (int what = -2; what < 11; what++) Check.eq(10, "rule(" + what + ")", x.rule(what), what >= 0 && what < 8 ? due[what] : HIDDEN);
    for (int what : new int[] {MIN, MAX}) Check.eq(10, "rule(" + what + ")", x.rule(what), HIDDEN);
    for (int what = -2; what < 11; what++) Check.eq(10, "rule(" + what + ") without a QUAY", new QuayCranes().rule(what), HIDDEN);
    Check.tape(x, "0 0 1 2 3 4 5 6 7").plan();
    for (int c = 0; c < 4; c++) x.breaks(c, c != 0);
    Check.eq(10, "rule(7): all", x.rule(7), 255);
    Check.eq(10, "rule(6): all but 0", x.rule(6), 14);
    x.go(8);
    Check.eq(10, "rule(5): all", x.rule(5), 255);
    Check.eq(10, "rule(4)", x.rule(4), 8);
    Check.eq(10, "rule(7): done ones, too", x.rule(7), 255);
    QuayCranes least = Check.quay("bays 2;crane 0");
    int[] few = {2, 1, 1, 0, 0, 0, 0, 0};
    for (int what = 0; what < 8; what++) Check.eq(10, "rule(" + what + ")", least.rule(what), few[what]);
  }

  /** "NoSuchElementException: no such ones." "2 its NEXT (NONE)" */
  private static void cranes() {
    for (int many = 1; many <= 4; many++) {
      QuayCranes x = Check.quay("bays 9" + ";crane 0;crane 2;crane 4;crane 8".substring(0, 8 * many));
      for (int c = -2; c < 7; c++) {
        for (int what = -2; what < 9; what++) {
          boolean there = c >= 0 && c < many && what >= 0 && what < 6;
          Check.eq(11, "crane(" + c + ", " + what + ") of " + many + " throws", Check.throwsNone(x, c, what), there ? 0 : 1);
        }
      }
      for (int odd : new int[] {MIN, MAX}) {
        Check.eq(11, "crane(" + odd + ", 0) throws", Check.throwsNone(x, odd, 0), 1);
        Check.eq(11, "crane(0, " + odd + ") throws", Check.throwsNone(x, 0, odd), 1);
      }
    }
    for (int what = -1; what < 7; what++) Check.eq(11, "crane(0, " + what + ") without a QUAY throws", Check.throwsNone(new QuayCranes(), 0, what), 1);
    Check.leaves(11, "crane(9, 9)", EdgesOfActs::busy, x -> Check.eq(11, "crane(9, 9) throws", Check.throwsNone(x, 9, 9), 1), -1);
    QuayCranes x = Check.quay("bays 9;crane 0" + TASK.repeat(8));
    Check.eq(11, "crane(0, 2): no plan", x.crane(0, 2), -1);
    Check.eq(11, "crane(0, 3): no plan", x.crane(0, 3), 0);
    Check.tape(x, "0 7 6 5 4 3 2 1 0").plan();
    for (int t = 7; t >= 0; t--) {
      Check.eq(11, "crane(0, 2)", x.crane(0, 2), t);
      Check.eq(11, "crane(0, 3): done ones, too", x.crane(0, 3), 8);
      x.go(1);
    }
    Check.eq(11, "crane(0, 2): all are done", x.crane(0, 2), -1);
    // the next one is the first that isn't done, whether it can be worked or not
    QuayCranes y = Check.planned(QUAY, "0 1 0");
    Check.eq(11, "crane(0, 2): behind another", y.crane(0, 2), 1);
    y.breaks(0, true);
    Check.eq(11, "crane(0, 2): broken", y.crane(0, 2), 1);
  }

  /** "4 SWAY times 10 (as floats, cut to a whole number), 5 SWAY as bits of a float": M is a minute with a step, R one without. */
  private static void cranesSway() {
    QuayCranes x = new Swung("MRMRMRRRRMRRRRMMMMM").crane;
    // 4.5999999 times 10 is 46 as floats, 45 as doubles
    Check.eq(11, "crane(0, 5)", x.crane(0, 5), 1083388723);
    Check.eq(11, "crane(0, 4): as floats", x.crane(0, 4), 46);
    float sway = 0f;
    StringBuilder row = new StringBuilder();
    for (int k = 0; k < 24; k++) {
      row.append(k % 7 < 4 ? 'M' : 'R');
      sway = k % 7 < 4 ? sway * 0.75f + 1.5f : sway * 0.5f;
    }
    QuayCranes y = new Swung(row.toString()).crane;
    Check.eq(11, "crane(0, 5) of " + row, y.crane(0, 5), Float.floatToIntBits(sway));
    Check.eq(11, "crane(0, 4) of " + row, y.crane(0, 4), (int) (sway * 10f));
    Check.eq(11, "crane(0, 4) at first", Check.quay(QUAY).crane(0, 4), 0);
    Check.eq(11, "crane(0, 5) at first", Check.quay(QUAY).crane(0, 5), 0);
    QuayCranes one = new Swung("M").crane;
    Check.eq(11, "crane(0, 4) of 1.5", one.crane(0, 4), 15);
    Check.tape(one, "").plan();
    one.go(1);
    Check.eq(11, "crane(0, 4) of 0.75: cut", one.crane(0, 4), 7);
    one.go(3);
    Check.eq(11, "crane(0, 4) of 0.09375", one.crane(0, 4), 0);
    Check.eq(11, "crane(0, 5) of 0.09375", one.crane(0, 5), Float.floatToIntBits(0.09375f));
  }

  /** "NONE: no such ones." */
  private static void tasks() {
    for (int many = 0; many <= 8; many++) {
      QuayCranes x = Check.quay("bays 9;crane 0" + TASK.repeat(many));
      for (int t = -2; t < 11; t++) Check.eq(12, "task(" + t + ", 1) of " + many, x.task(t, 1), t >= 0 && t < many ? 1 : -1);
      for (int t : new int[] {32, MIN, MAX}) Check.eq(12, "task(" + t + ", 1)", x.task(t, 1), -1);
    }
    QuayCranes x = Check.planned("bays 9;crane 0" + TASK, "0 0");
    x.go(1);
    int[] due = {0, 1, 1, 0, 1, 1, 0, 1, 0};
    for (int what = -2; what < 12; what++) Check.eq(12, "task(0, " + what + ")", x.task(0, what), what >= 0 && what < 9 ? due[what] : -1);
    for (int what : new int[] {MIN, MAX}) Check.eq(12, "task(0, " + what + ")", x.task(0, what), -1);
    for (int what = -1; what < 10; what++) Check.eq(12, "task(0, " + what + ") without a QUAY", new QuayCranes().task(0, what), -1);
  }

  /** "5 whether it is DONE, .. 7 the MINUTE behind which it was DONE, 8 the CRANE that did so (NONE of both: it isn't)" */
  private static void tasksDone() {
    QuayCranes x = Check.planned("bays 9;crane 0;crane 3;crane 6;crane 8;task at 8 takes 3" + TASK, "0 1;3 0");
    for (int m = 1; m <= 4; m++) {
      x.go(1);
      Check.eq(12, "task(0, 4) behind " + m, x.task(0, 4), Math.min(3, m));
      Check.eq(12, "task(0, 5) behind " + m, x.task(0, 5), m < 3 ? 0 : 1);
      Check.eq(12, "task(0, 7) behind " + m, x.task(0, 7), m < 3 ? -1 : 3);
      Check.eq(12, "task(0, 8) behind " + m, x.task(0, 8), m < 3 ? -1 : 3);
      Check.eq(12, "task(1, 7) behind " + m, x.task(1, 7), 1);
      Check.eq(12, "task(1, 8) behind " + m, x.task(1, 8), 0);
    }
    Check.tape(x, "").plan();
    Check.eq(12, "task(0, 6): told no more", x.task(0, 6), -1);
    Check.eq(12, "task(0, 8)", x.task(0, 8), 3);
    x.go(100);
    Check.eq(12, "task(0, 7): it stays", x.task(0, 7), 3);
    QuayCranes late = Check.planned("bays 9;crane 0;task at 0 takes 30;task at 0 takes 1", "0 1");
    for (int k = 0; k < 4; k++) late.go(100);
    Check.tape(late, "0 0").plan();
    late.go(70);
    late.go(30);
    Check.eq(12, "task(0, 7) late", late.task(0, 7), 430);
    Check.eq(12, "task(1, 7)", late.task(1, 7), 1);
  }

  /** "of several the first" */
  private static void ofSeveralTheFirst() {
    QuayCranes x = new QuayCranes();
    Check.tape(x, "0 0 0").plan();
    x.go(0);
    x.breaks(9, false);
    x.more(-1, 0, 0, -2);
    x.more(0, 0, 0, -1);
    x.follow(9);
    Check.row(37, "without a QUAY", statuses(x), "6 0 0 0");
    Check.tape(x, "bays 9;crane 0" + TASK.repeat(8)).quay();
    x.more(9, 31, 1, -1);
    x.more(0, 1, 100, 8);
    Check.row(37, "no such BAY, TASK ahead of bounds and room", statuses(x), "8 0 0 0");
    x.more(0, 31, 1, -1);
    x.more(0, 1, 0, 7);
    Check.row(37, "bounds ahead of room", statuses(x), "8 2 0 0");
    x.more(0, 1, 1, 7);
    Check.row(37, "room", statuses(x), "8 2 0 1");
    x.breaks(1, false);
    Check.row(37, "no such CRANE ahead of so already", statuses(x), "9 2 0 1");
    x.follow(2);
    Check.row(37, "more than 5 TASKS", statuses(x), "9 3 0 1");
  }

  /** "STATUS. NONE: no such what." */
  private static void statusOfWhat() {
    QuayCranes x = new QuayCranes();
    for (int what = -2; what < 7; what++) Check.eq(37, "status(" + what + ")", x.status(what), what >= 0 && what < 4 ? 0 : -1);
    for (int what : new int[] {MIN, MAX}) Check.eq(37, "status(" + what + ")", x.status(what), -1);
    for (int k = 1; k <= 400; k++) x.go(1);
    Check.eq(37, "status(0) of 400", x.status(0), 400);
  }

  /** What is no act doesn't count, and undo, an image, a quay leave it. */
  private static void statusStays() {
    QuayCranes x = busy();
    x.go(0);
    x.breaks(1, true);
    x.breaks(7, true);
    String was = statuses(x);
    Check.row(37, "status", was, "1 1 1 0");
    x.quay();
    x.tried();
    x.moves();
    x.fault(9);
    x.end(-1);
    x.feed(0, 0, 0, 0, 0);
    x.rule(99);
    x.task(99, 99);
    x.where(9, 999);
    x.best(99);
    x.slack(99);
    x.without(99);
    x.status(99);
    Check.throwsNone(x, 9, 9);
    Check.row(37, "no act", statuses(x), was);
    x.undo();
    x.back();
    x.undo();
    x.image();
    Check.row(37, "undo, image, back", statuses(x), was);
    Check.tape(x, QUAY).quay();
    Check.row(37, "quay", statuses(x), was);
    Check.eq(34, "undo() of nothing", x.undo(), -1);
    Check.eq(36, "back() without one", x.back(), -1);
    Check.row(37, "undo and back refused", statuses(x), was);
  }

  /** "the latest 10 can be UNDONE" */
  private static void latestTen() {
    for (int many = 0; many <= 25; many++) {
      QuayCranes x = Check.quay("bays 30;crane 0;task at 29 takes 1");
      for (int k = 0; k < many; k++) {
        if (k % 3 == 2) x.breaks(0, k % 2 == 0); else x.go(k + 1);
      }
      int acts = Math.min(10, x.count(1));
      Check.eq(39, "count(1) behind " + many, x.count(1), acts);
      for (int left = acts - 1; left >= 0; left--) {
        Check.eq(34, "undo() of " + many, x.undo(), left);
        Check.eq(39, "count(1)", x.count(1), left);
      }
      Check.eq(34, "undo(): none", x.undo(), -1);
    }
    for (int many : new int[] {9, 10, 11, 12, 20, 21}) {
      QuayCranes x = Check.quay(QUAY);
      int minute = 0;
      for (int k = 1; k <= many; k++) x.go(k);
      int first = Math.max(0, many - 10);
      for (int k = many; k > first; k--) {
        x.undo();
        Check.eq(34, "rule(4) ahead of act " + k, x.rule(4), k * (k - 1) / 2);
        minute = x.rule(4);
      }
      Check.eq(34, "undo(): none is left", x.undo(), -1);
      Check.eq(34, "rule(4): all stays", x.rule(4), minute);
    }
    // one undone makes room for one: never more than ten
    QuayCranes x = Check.quay(QUAY);
    for (int k = 0; k < 10; k++) x.go(1);
    for (int k = 0; k < 30; k++) {
      x.undo();
      x.undo();
      x.go(3);
      x.go(1);
      Check.eq(39, "count(1)", x.count(1), 10);
    }
    for (int k = 9; k >= 0; k--) Check.eq(34, "undo()", x.undo(), k);
    Check.eq(34, "rule(4): the first one's", x.rule(4), 0);
  }

  /** "how many can be then. NONE: none." */
  private static void undoNone() {
    Check.eq(34, "undo() without a QUAY", new QuayCranes().undo(), -1);
    QuayCranes x = Check.quay(QUAY);
    String was = Check.state(x);
    Check.eq(34, "undo() of a new QUAY", x.undo(), -1);
    Check.row(34, "state", Check.state(x), was);
    x.go(1);
    Check.eq(34, "undo() of one", x.undo(), 0);
    Check.eq(34, "undo() again", x.undo(), -1);
    Check.row(34, "state", Check.state(x), was);
  }

  /** "ACTS: a PLAN that holds, MINUTES, CRANES BROKEN, MENDED, TASKS more" */
  private static void undoEach() {
    Acted[] acts = {x -> Check.tape(x, "1 1").plan(), x -> x.go(1), x -> x.go(100), x -> x.breaks(0, true), x -> x.breaks(1, false),
        x -> x.more(9, 9, 9, 0), x -> x.follow(0), x -> x.follow(1), x -> x.follow(2), x -> Check.tape(x, "").plan()};
    for (int k = 0; k < acts.length; k++) {
      QuayCranes x = Check.planned(QUAY, "1 0 1");
      x.go(3);
      x.breaks(1, true);
      if (k >= 6 && k < 9) x.breaks(1, false);
      int many = x.count(1);
      String was = Check.state(x);
      acts[k].on(x);
      Check.eq(39, "count(1) behind act " + k, x.count(1), many + 1);
      Check.eq(34, "act " + k + " changed something", Check.state(x).equals(was) ? 1 : 0, 0);
      Check.eq(34, "undo() of act " + k, x.undo(), many);
      Check.row(34, "state behind the undone act " + k, Check.state(x), was);
    }
    QuayCranes better = Check.planned(QUAY, "0 0 1");
    String was = Check.state(better);
    Check.eq(24, "follow(3)", better.follow(3), 9);
    Check.eq(34, "undo() of follow(3)", better.undo(), 1);
    Check.row(34, "state", Check.state(better), was);
    // what was found for things as they were holds no more, and holds again
    QuayCranes x = Check.planned(QUAY, "0 0;1 1");
    Check.eq(20, "best(-1)", x.best(-1), 9);
    Check.eq(31, "without(0)", x.without(0), 14);
    x.breaks(0, true);
    Check.eq(20, "best(-1): one is broken", x.best(-1), 14);
    Check.eq(13, "last()", x.last(), -1);
    x.undo();
    Check.eq(20, "best(-1) undone", x.best(-1), 9);
    Check.eq(13, "last() undone", x.last(), 9);
  }

  private interface Acted {
    void on(QuayCranes x);
  }

  private static void refusedOnesAreNoActs() {
    QuayCranes x = Check.quay(QUAY);
    Check.tape(x, "9").plan();
    x.go(0);
    x.breaks(0, false);
    x.breaks(5, true);
    x.more(10, 1, 1, -1);
    x.more(0, 0, 1, -1);
    x.follow(3);
    x.follow(7);
    Check.eq(39, "count(1)", x.count(1), 0);
    Check.row(37, "status", statuses(x), "2 5 1 0");
    x.end(0);
    x.tried();
    x.image();
    x.best(0);
    Check.eq(39, "count(1)", x.count(1), 0);
  }

  /** "the MINUTE. NONE: no QUAY." "NONE: no IMAGE." */
  private static void imageOfNoQuay() {
    QuayCranes x = new QuayCranes();
    Check.eq(35, "image() without a QUAY", x.image(), -1);
    Check.eq(36, "back() behind it", x.back(), -1);
    Check.eq(36, "rule(0): still no QUAY", x.rule(0), HIDDEN);
    Check.tape(x, QUAY).quay();
    Check.eq(36, "back() of a new QUAY", x.back(), -1);
    Check.leaves(36, "back() without an IMAGE", () -> Check.planned(QUAY, "0 0"), y -> Check.eq(36, "back()", y.back(), -1), -1);
    Check.eq(35, "image() at 0", x.image(), 0);
    for (int k = 0; k < 5; k++) x.go(100);
    Check.eq(35, "image() at 500", x.image(), 500);
    Check.eq(36, "back() to 500", x.back(), 500);
  }

  /** "An IMAGE (instead of the one ahead)" */
  private static void imageInsteadOfTheOneAhead() {
    QuayCranes x = Check.planned(QUAY, "0 0;1 1");
    x.image();
    x.go(3);
    Check.eq(35, "image()", x.image(), 3);
    String was = Check.state(x);
    x.go(5);
    Check.eq(36, "back()", x.back(), 3);
    Check.row(36, "state", Check.state(x), was);
    Check.eq(36, "back(): one alone is kept", x.back(), 3);
    Check.leaves(35, "image() twice", () -> {
      QuayCranes y = busy();
      y.image();
      return y;
    }, QuayCranes::image, -1);
  }

  /** "All it keeps is so again (no ACT can be UNDONE then): the MINUTE." */
  private static void backToIt() {
    QuayCranes x = Check.planned(QUAY, "0 0;1 1");
    x.breaks(1, true);
    x.go(5);
    x.image();
    String was = Check.state(x);
    x.breaks(1, false);
    x.breaks(0, true);
    Check.tape(x, "1 1").plan();
    x.more(0, 1, 1, 1);
    x.go(60);
    Check.eq(13, "last()", x.last(), -1);
    Check.tape(x, "0 0 ; x");
    Check.eq(36, "back()", x.back(), 5);
    Check.row(36, "state", Check.state(x), was);
    Check.eq(36, "count(1): no ACT", x.count(1), 0);
    Check.eq(36, "undo()", x.undo(), -1);
    Check.eq(36, "count(0): the tape stays", x.count(0), 7);
    Check.eq(36, "fault(1): the tape stays", x.fault(1), 6);
    Check.eq(36, "last() is anew", x.last(), -1);
    x.breaks(1, false);
    // a step, a minute to be calm, three of work
    Check.eq(36, "last() is anew", x.last(), 5);
    Check.eq(36, "an act behind it can be undone", x.undo(), 0);
  }

  /** An image outlives undo, refused quays and back itself; a QUAY ends it. */
  private static void backOutlives() {
    QuayCranes x = Check.planned(QUAY, "0 0;1 1");
    x.go(4);
    x.image();
    x.undo();
    x.undo();
    Check.eq(36, "rule(4)", x.rule(4), 0);
    Check.tape(x, "bays").quay();
    Check.eq(36, "back()", x.back(), 4);
    Check.eq(36, "rule(7)", x.rule(7), 3);
    Check.eq(36, "back() again", x.back(), 4);
    Check.tape(x, QUAY).quay();
    Check.eq(36, "back() behind a QUAY", x.back(), -1);
    Check.eq(36, "rule(4)", x.rule(4), 0);
  }

  /** Whether something was asked ahead of a change or not, the answers behind it are the same. */
  private static void askedAheadOfIt() {
    String smaller = "bays 6;crane 2;task at 1 takes 1;task at 4 takes 2;task at 2 takes 3";
    Acted[] changes = {x -> Check.tape(x, "1 1").plan(), x -> x.go(1), x -> x.go(6), x -> x.breaks(0, true), x -> x.breaks(2, true),
        x -> x.more(1, 3, 1, -1), x -> x.follow(0), x -> x.follow(1), x -> x.follow(2), x -> x.undo(), EdgesOfActs::undoAll, x -> x.back(),
        x -> Check.tape(x, smaller).quay(), x -> Check.tape(x, "bays 2;crane 1").quay()};
    for (int k = 0; k < changes.length; k++) {
      QuayCranes asked = threeCranes();
      String ahead = answers(asked);
      QuayCranes x = threeCranes();
      changes[k].on(asked);
      changes[k].on(x);
      String behind = answers(asked);
      Check.row(34, "answers behind change " + k, behind, answers(x));
      Check.eq(34, "change " + k + " is seen", behind.equals(ahead) ? 1 : 0, 0);
    }
  }

  private static void undoAll(QuayCranes x) {
    for (int k = 0; k < 10; k++) x.undo();
  }

  private static QuayCranes threeCranes() {
    QuayCranes x = Check.planned("bays 13;gap 2;crane 1;crane 5;crane 9;task at 3 takes 2;task at 6 takes 3 after 0;task at 10 takes 4", "0 0;2 2 1");
    x.image();
    x.go(2);
    return x;
  }

  /** What is worked out from the state, as a text. */
  private static String answers(QuayCranes x) {
    StringBuilder sb = new StringBuilder();
    for (int c = 0; c < 3; c++) {
      for (int m = 0; m < 20; m++) sb.append(x.where(c, m)).append(x.deed(c, m)).append(' ');
      sb.append(x.deeds(c, 300, 4)).append(' ').append(x.swings(c, 300)).append(' ').append(x.without(c)).append(' ');
    }
    for (int t = 0; t < 5; t++) sb.append(x.doneBy(t)).append(' ').append(x.slack(t)).append(' ');
    for (int what = -1; what < 15; what++) sb.append(x.best(what)).append(' ').append(x.easy(what)).append(' ').append(x.zones(what)).append(' ');
    for (int what = 0; what < 4; what++) {
      sb.append(x.better(what)).append(' ').append(x.bound(what)).append(' ').append(x.dearest(what)).append(' ').append(x.mean(what)).append(' ').append(x.most(what)).append(' ');
    }
    return sb.append(x.nearest(300)).append(' ').append(x.idle(300)).append(' ').append(x.last()).append(' ').append(Check.written(x)).toString();
  }

  /** "0 bytes of the TAPE, 1 ACTS that can be UNDONE. NONE for others." */
  private static void counts() {
    QuayCranes x = new QuayCranes();
    for (int what = -2; what < 5; what++) Check.eq(39, "count(" + what + ")", x.count(what), what == 0 || what == 1 ? 0 : -1);
    for (int what : new int[] {MIN, MAX}) Check.eq(39, "count(" + what + ")", x.count(what), -1);
    for (int n = 0; n <= 400; n += 50) Check.eq(39, "count(0)", Check.tape(new QuayCranes(), " ".repeat(n)).count(0), n);
    QuayCranes y = Check.quay(QUAY);
    for (int k = 1; k <= 12; k++) {
      y.go(1);
      Check.eq(39, "count(1)", y.count(1), Math.min(10, k));
    }
  }
}
