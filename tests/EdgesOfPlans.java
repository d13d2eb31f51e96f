import java.util.function.Supplier;

/** Section 3 of the Terms, promises 18 to 25, 29 to 33 and 38: each sentence that names a boundary of what is found, by itself. */
public final class EdgesOfPlans {
  private static final int MIN = Integer.MIN_VALUE;
  private static final int MAX = Integer.MAX_VALUE;
  private static final int HIDDEN = -1000000;
  private static final String QUAY = "bays 10;gap 2;crane 1;crane 5;task at 3 takes 2;task at 6 takes 3 after 0";
  private static final String TASK = ";task at 0 takes 1";
  /** To and fro between 28 and 1, each behind the one ahead: 271 minutes, and those of the last task. */
  private static final String TO_AND_FRO = "bays 30;crane 0;task at 28 takes 30;task at 1 takes 30 after 0;task at 28 takes 30 after 1;"
      + "task at 1 takes 30 after 2;task at 28 takes ";

  public static void main(String[] args) {
    triedRefused();
    triedIsNoAct();
    trueFirstLine();
    trueBays();
    trueGap();
    trueSteps();
    trueBroken();
    trueFirstThatIsNot();
    movesRefused();
    whatsOfFoundPlans();
    bestOfFive();
    bestNone();
    bestWithin300();
    bestOfSeveral();
    bestLessByOne();
    bestOfWhatIsLeft();
    bestWhereACraneCanCome();
    bestOfNothing();
    easyGives();
    easyWithin300();
    easyNone();
    zonesRuns();
    zonesOfSeveral();
    zonesWithin300();
    betterWhat();
    betterIsLess();
    betterThanNone();
    betterOfSeveral();
    betterOfWhatIsTold();
    betterOfEight();
    betterWithin300();
    followWhich();
    followRefused();
    followHoldsAllTheSame();
    writtenBytes();
    dearestOfThoseThatCan();
    boundInARow();
    boundRoundedUp();
    boundAtGapBays();
    boundOfNothing();
    withoutEach();
    slackUpTo61();
    slackRefused();
    means();
    mostLeft();
    Check.ends("EdgesOfPlans");
  }

  private static QuayCranes busy() {
    QuayCranes x = Check.planned(QUAY, "0 0;1 1");
    x.go(3);
    x.image();
    x.go(1);
    x.breaks(1, true);
    return Check.tape(x, "1 1;0 7");
  }

  private static void refused(int promise, String what, int answer, int why, Asked call) {
    Check.leaves(promise, what, EdgesOfPlans::busy, x -> Check.eq(promise, what, call.of(x), answer), why);
  }

  private interface Asked {
    int of(QuayCranes x);
  }

  private static String found(QuayCranes x, int sort) {
    StringBuilder sb = new StringBuilder();
    for (int what = -1; what < 18; what++) {
      int one = sort == 0 ? x.easy(what) : sort == 1 ? x.zones(what) : x.best(what);
      if (one != HIDDEN) sb.append(one).append(' ');
    }
    return sb.toString();
  }

  /** "HIDDEN: no QUAY, a FAULT (the TAPE stays)." */
  private static void triedRefused() {
    refused(18, "tried() with a fault", HIDDEN, -1, QuayCranes::tried);
    for (String text : new String[] {"", "0", "x", "bays 9;crane 1"}) {
      QuayCranes none = Check.tape(new QuayCranes(), text);
      Check.eq(18, "tried() without a QUAY", none.tried(), HIDDEN);
      Check.eq(18, "count(0): the tape stays", none.count(0), text.length());
      Check.eq(18, "status(0): no act", none.status(0), 0);
    }
  }

  /** "TRIED: a PLAN apart, as things are now": nothing else changes, be its LAST none, 0 or something */
  private static void triedIsNoAct() {
    String[] plans = {"", "0 1", "1 1", "0;1", "0 1;1"};
    int[] due = {0, -1, -1, 0, -1};
    for (int k = 0; k < plans.length; k++) {
      String plan = plans[k];
      int last = due[k];
      Supplier<QuayCranes> made = () -> Check.tape(busy(), "");
      Check.leaves(18, "tried() of " + plan, made, x -> Check.eq(18, "tried() of " + plan, Check.tape(x, plan).tried(), last), -1);
    }
    QuayCranes x = Check.quay(QUAY);
    Check.eq(18, "tried()", Check.tape(x, "0 0;1 1").tried(), 9);
    Check.eq(18, "the tape is empty", x.count(0), 0);
    Check.eq(18, "last(): none holds", x.last(), 0);
    Check.row(18, "written", Check.written(x), "0;1");
  }

  private static int moved(QuayCranes x, String text) {
    return Check.tape(x, text).moves();
  }

  /** "TRUE are MOVES told, if the first LINE is as CRANES stand now" */
  private static void trueFirstLine() {
    String four = "bays 20;gap 2;crane 3;crane 7;crane 11;crane 15";
    Check.eq(19, "moves() of the first line alone", moved(Check.quay(four), "3 7 11 15"), -1);
    for (String off : new String[] {"2 7 11 15", "4 7 11 15", "3 6 11 15", "3 8 11 15", "3 7 10 15", "3 7 12 15", "3 7 11 14", "3 7 11 16", "7 3 11 15", "99 99 99 99"}) {
      Check.eq(19, "moves() of " + off, moved(Check.quay(four), off), 0);
      Check.eq(19, "moves() of " + off + " and back", moved(Check.quay(four), off + ";3 7 11 15"), 0);
    }
    QuayCranes x = Check.planned(QUAY, "0 0;1 1");
    x.go(1);
    Check.eq(19, "moves(): as they stand now", moved(x, "2 6"), -1);
    Check.eq(19, "moves(): as they stood", moved(x, "1 5"), 0);
    x.undo();
    Check.eq(19, "moves(): as they stand again", moved(x, "1 5"), -1);
    x.breaks(0, true);
    Check.eq(19, "moves(): broken ones stand there, too", moved(x, "1 5"), -1);
  }

  /** "in each LINE all BAYS are there" */
  private static void trueBays() {
    for (int bays : new int[] {2, 9, 30}) {
      QuayCranes x = Check.quay("bays " + bays + ";crane " + (bays - 1));
      Check.eq(19, "moves() at the last bay", moved(x, bays - 1 + ";" + (bays - 2) + ";" + (bays - 1)), -1);
      Check.eq(19, "moves() beyond it", moved(x, bays - 1 + ";" + bays), 1);
      Check.eq(19, "moves() beyond it and back", moved(x, bays - 1 + ";" + bays + ";" + (bays - 1)), 1);
      QuayCranes low = Check.quay("bays " + bays + ";crane 1");
      Check.eq(19, "moves() at the first bay", moved(low, "1;0;1"), -1);
    }
    Check.eq(19, "moves() of the last of four", moved(Check.quay("bays 9;crane 0;crane 2;crane 4;crane 8"), "0 2 4 8;0 2 4 9"), 1);
  }

  /** "and GAP holds" */
  private static void trueGap() {
    for (int gap = 1; gap <= 5; gap++) {
      int second = 5 + gap + 1;
      QuayCranes x = Check.quay("bays 30;gap " + gap + ";crane 5;crane " + second);
      Check.eq(19, "moves() up to the gap", moved(x, "5 " + second + ";6 " + second), -1);
      Check.eq(19, "moves() down to the gap", moved(x, "5 " + second + ";5 " + (second - 1)), -1);
      Check.eq(19, "moves() of both", moved(x, "5 " + second + ";6 " + (second - 1)), 1);
      Check.eq(19, "moves() beyond the gap", moved(x, "5 " + second + ";6 " + second + ";7 " + second), 2);
      Check.eq(19, "moves() both at once", moved(x, "5 " + second + ";6 " + (second + 1) + ";7 " + (second + 2)), -1);
    }
    QuayCranes x = Check.quay("bays 30;crane 5;crane 6;crane 7;crane 9");
    Check.eq(19, "moves() of the last two", moved(x, "5 6 7 9;5 6 7 8"), -1);
    Check.eq(19, "moves() onto one", moved(x, "5 6 7 9;5 6 7 8;5 6 8 8"), 2);
    Check.eq(19, "moves() through one", moved(x, "5 6 7 9;5 6 7 8;5 6 8 7"), 2);
  }

  /** "from one LINE to the next no CRANE goes more than one BAY" */
  private static void trueSteps() {
    for (int to = 0; to < 30; to++) {
      QuayCranes x = Check.quay("bays 30;crane 14");
      Check.eq(19, "moves() from 14 to " + to, moved(x, "14;" + to), to >= 13 && to <= 15 ? -1 : 1);
    }
    QuayCranes x = Check.quay("bays 30;crane 4;crane 14;crane 20;crane 26");
    for (int c = 0; c < 4; c++) {
      for (int by = -2; by <= 2; by++) {
        int[] row = {4, 14, 20, 26};
        row[c] += by;
        String line = row[0] + " " + row[1] + " " + row[2] + " " + row[3];
        Check.eq(19, "moves() of " + line, moved(x, "4 14 20 26;" + line), by == -2 || by == 2 ? 1 : -1);
      }
    }
    Check.eq(19, "moves() of all four", moved(x, "4 14 20 26;5 13 21 25;4 14 20 26"), -1);
  }

  /** "and no BROKEN one goes" */
  private static void trueBroken() {
    for (int c = 0; c < 3; c++) {
      QuayCranes x = Check.quay("bays 30;crane 4;crane 14;crane 20");
      x.breaks(c, true);
      for (int by = -1; by <= 1; by += 2) {
        int[] row = {4, 14, 20};
        row[c] += by;
        Check.eq(19, "moves() of a broken one", moved(x, "4 14 20;" + row[0] + " " + row[1] + " " + row[2]), 1);
        int[] others = {4 + by, 14 + by, 20 + by};
        others[c] -= by;
        Check.eq(19, "moves() of the others", moved(x, "4 14 20;" + others[0] + " " + others[1] + " " + others[2]), -1);
      }
      x.breaks(c, false);
      Check.eq(19, "moves() of mended ones", moved(x, "4 14 20;5 15 21"), -1);
    }
  }

  /** "the first LINE that isn't so" */
  private static void trueFirstThatIsNot() {
    for (int wrong = 0; wrong < 40; wrong++) {
      StringBuilder text = new StringBuilder();
      for (int k = 0; k < 40; k++) text.append(k == 0 ? "" : ";").append(k == wrong || k == wrong + 3 ? "9 3" : "1 5");
      Check.eq(19, "moves() wrong from " + wrong, moved(Check.quay(QUAY), text.toString()), wrong);
    }
  }

  /** "HIDDEN: no QUAY, a FAULT (the TAPE stays)." */
  private static void movesRefused() {
    Check.leaves(19, "moves() with a fault", () -> Check.tape(busy(), "3 6;3 6 7"), x -> Check.eq(19, "moves()", x.moves(), HIDDEN), -1);
    Check.leaves(19, "moves()", () -> Check.tape(busy(), ""), x -> Check.eq(19, "moves()", moved(x, "3 6;3 6"), -1), -1);
    Check.leaves(19, "moves() that aren't TRUE", () -> Check.tape(busy(), ""), x -> Check.eq(19, "moves()", moved(x, "3 6;2 7"), 1), -1);
    for (String text : new String[] {"", "1", "1 5"}) {
      QuayCranes none = Check.tape(new QuayCranes(), text);
      Check.eq(19, "moves() without a QUAY", none.moves(), HIDDEN);
      Check.eq(19, "count(0): the tape stays", none.count(0), text.length());
    }
  }

  /** "(what NONE); else the CRANE of a TASK (what 0 to 7), its place there (10 to 17, 0 on) .. HIDDEN: no such ones." */
  private static void whatsOfFoundPlans() {
    for (int many = 0; many <= 8; many++) {
      QuayCranes x = Check.quay("bays 9;crane 0" + TASK.repeat(many));
      for (int what = -4; what < 22; what++) {
        int due = what == -1 ? many : what >= 0 && what < many ? 0 : what >= 10 && what < 10 + many ? what - 10 : HIDDEN;
        Check.eq(21, "easy(" + what + ") of " + many, x.easy(what), due);
        Check.eq(22, "zones(" + what + ") of " + many, x.zones(what), due);
        Check.eq(20, "best(" + what + ") of " + many, x.best(what), due != HIDDEN && many > 5 ? -2 : due);
      }
      for (int what : new int[] {MIN, MAX, MIN + 10, 32, 42}) {
        Check.eq(20, "best(" + what + ")", x.best(what), HIDDEN);
        Check.eq(21, "easy(" + what + ")", x.easy(what), HIDDEN);
        Check.eq(22, "zones(" + what + ")", x.zones(what), HIDDEN);
      }
    }
    QuayCranes none = new QuayCranes();
    for (int what = -2; what < 19; what++) {
      Check.eq(20, "best(" + what + ") without a QUAY", none.best(what), HIDDEN);
      Check.eq(21, "easy(" + what + ") without a QUAY", none.easy(what), HIDDEN);
      Check.eq(22, "zones(" + what + ") without a QUAY", none.zones(what), HIDDEN);
    }
    // "NONE: .. the TASK is DONE"
    QuayCranes x = Check.planned("bays 9;crane 0" + TASK.repeat(3), "0 1");
    x.go(1);
    for (int sort = 0; sort < 3; sort++) Check.row(20 + sort, "found, sort " + sort, found(x, sort), "2 0 -1 0 0 -1 1");
    x.follow(0);
    x.go(2);
    for (int sort = 0; sort < 3; sort++) Check.row(20 + sort, "found, all are done, sort " + sort, found(x, sort), "0 -1 -1 -1 -1 -1 -1");
    // "NONE: none"
    x.more(0, 1, 1, -1);
    x.breaks(0, true);
    for (int sort = 0; sort < 3; sort++) Check.row(20 + sort, "found, none, sort " + sort, found(x, sort), "-1 -1 -1 -1 -1 -1 -1 -1 -1");
    refused(20, "best(99)", HIDDEN, -1, y -> y.best(99));
    refused(20, "best(-1)", -1, -1, y -> y.best(-1));
    refused(21, "easy(-1)", -1, -1, y -> y.easy(-1));
    refused(22, "zones(-1)", -1, -1, y -> y.zones(-1));
  }

  /** "5 TASKS at most", "-2: more than 5 are left" */
  private static void bestOfFive() {
    for (int many = 0; many <= 8; many++) {
      for (int done = 0; done <= many; done++) {
        QuayCranes x = Check.quay("bays 9;crane 0;crane 8" + TASK.repeat(many));
        if (done > 0) Check.tape(x, "0 0 1 2 3 4 5 6 7".substring(0, 1 + 2 * done)).plan();
        if (done > 0) x.go(done);
        int left = many - done;
        Check.eq(20, "best(-1), left are " + left, x.best(-1), left > 5 ? -2 : left);
        Check.eq(31, "without(1), left are " + left, x.without(1), left > 5 ? -2 : left);
        Check.eq(31, "without(9), left are " + left, x.without(9), HIDDEN);
        Check.eq(29, "dearest(0), left are " + left, x.dearest(0), left > 5 ? -2 : 0);
        Check.eq(29, "dearest(1), left are " + left, x.dearest(1) == -2 ? 1 : 0, left > 5 ? 1 : 0);
        Check.eq(29, "dearest(2), left are " + left, x.dearest(2), HIDDEN);
        int acts = x.count(1);
        Check.eq(24, "follow(2), left are " + left, x.follow(2), left > 5 ? -1 : left);
        Check.eq(24, "status(1)", x.status(1), left > 5 ? 1 : 0);
        Check.eq(24, "count(1)", x.count(1), left > 5 ? acts : acts + 1);
        Check.eq(24, "follow(1), left are " + left, x.follow(1), left);
      }
    }
    // a sixth comes and goes
    QuayCranes x = Check.quay("bays 9;crane 0" + TASK.repeat(5));
    Check.eq(20, "best(-1) of five", x.best(-1), 5);
    x.more(0, 1, 1, -1);
    Check.eq(20, "best(-1) of six", x.best(-1), -2);
    x.undo();
    Check.eq(20, "best(-1) of five", x.best(-1), 5);
    // too many, even where none could be: six that nobody can lift
    QuayCranes heavy = Check.quay("bays 9;crane 0 lift 1" + ";task at 0 takes 1 heavy 2".repeat(6));
    Check.eq(20, "best(-1) of six heavy ones", heavy.best(-1), -2);
    heavy.breaks(0, true);
    Check.eq(20, "best(0) of six heavy ones", heavy.best(0), -2);
    Check.eq(31, "without(0) of six", heavy.without(0), -2);
  }

  /** "(none, if no one has one", "for CRANES that aren't BROKEN, by LIFT" */
  private static void bestNone() {
    for (int lift : new int[] {1, 2, 9, 10, 97, 98}) {
      QuayCranes x = Check.quay("bays 9;crane 0 lift " + lift + ";task at 0 takes 1 heavy " + lift);
      Check.row(20, "best(..) of what it lifts", found(x, 2), "1 0 0");
      Check.row(21, "easy(..) of what it lifts", found(x, 0), "1 0 0");
      Check.row(22, "zones(..) of what it lifts", found(x, 1), "1 0 0");
      QuayCranes y = Check.quay("bays 9;crane 0 lift " + lift + ";task at 0 takes 1 heavy " + (lift + 1));
      Check.row(20, "best(..) of too heavy a one", found(y, 2), "-1 -1 -1");
      Check.row(21, "easy(..) of too heavy a one", found(y, 0), "-1 -1 -1");
      Check.row(22, "zones(..) of too heavy a one", found(y, 1), "-1 -1 -1");
    }
    // of two the one can, but is broken
    QuayCranes x = Check.quay("bays 9;crane 0 lift 5;crane 8 lift 9;task at 4 takes 1 heavy 6");
    Check.row(20, "best(..)", found(x, 2), "8 1 0");
    x.breaks(1, true);
    Check.row(20, "best(..): it is broken", found(x, 2), "-1 -1 -1");
    Check.eq(31, "without(1)", x.without(1), -1);
    Check.eq(31, "without(0)", x.without(0), -1);
    // nobody can come there: the other cranes have no bay to be pushed to
    QuayCranes end = Check.quay("bays 9;gap 2;crane 1 lift 9;crane 3 lift 1;task at 7 takes 1 heavy 2");
    Check.eq(20, "best(-1) to the last bay but one", end.best(-1), -1);
    QuayCranes near = Check.quay("bays 9;gap 2;crane 1 lift 9;crane 3 lift 1;task at 6 takes 1 heavy 2");
    // five steps, three minutes to be calm, one
    Check.eq(20, "best(-1) to the one ahead of it", near.best(-1), 9);
  }

  /** "none, if it takes more than 300" */
  private static void bestWithin300() {
    for (int takes = 27; takes <= 30; takes++) {
      int due = takes > 29 ? -1 : 271 + takes;
      QuayCranes x = Check.quay(TO_AND_FRO + takes + " after 3");
      Check.eq(20, "best(-1) with " + takes, x.best(-1), due);
      Check.eq(20, "best(14) with " + takes, x.best(14), due == -1 ? -1 : 4);
      Check.eq(29, "dearest(1) with " + takes, x.dearest(1), -1);
      Check.eq(18, "tried() with " + takes, Check.tape(x, "0 0 1 2 3 4").tried(), due);
      Check.eq(24, "follow(2) with " + takes, x.follow(2), due);
      QuayCranes two = Check.quay(TO_AND_FRO.replace("crane 0", "crane 0;crane 29") + takes + " after 3");
      Check.eq(31, "without(1) with " + takes, two.without(1), due);
      Check.eq(29, "dearest(0) with " + takes, two.dearest(0), 1);
      Check.eq(29, "dearest(1) with " + takes, two.dearest(1), due);
    }
  }

  /** "of several the first row: of each CRANE in turn its TASKS, then an end; an end is less than any TASK" */
  private static void bestOfSeveral() {
    // any turn is as good: by numbers
    for (int many = 1; many <= 5; many++) {
      QuayCranes x = Check.quay("bays 9;crane 0" + TASK.repeat(many));
      for (int t = 0; t < many; t++) Check.eq(20, "best(1" + t + ")", x.best(10 + t), t);
    }
    // each of the four as good: the last one's, as an end is less than a task
    String four = "bays 30;crane 0 lift 9;crane 1 lift 8;crane 2;crane 3;task at 29 takes 1";
    QuayCranes x = Check.quay(four.replace("task at 29", "task at 3"));
    Check.eq(20, "best(0)", x.best(0), 3);
    // two at once, one each: the lower crane has an end as soon as can be; which task is told to which is the first row, too
    QuayCranes y = Check.quay("bays 9;crane 3;crane 5;task at 4 takes 1;task at 4 takes 1");
    Check.eq(20, "best(-1)", y.best(-1), 4);
    Check.row(20, "best(..): both for the second", found(y, 2), "4 1 1 0 1");
    // 0 with 1 behind it, or each by itself: as good; with an end first
    QuayCranes z = Check.quay("bays 9;crane 1;crane 5;task at 1 takes 2;task at 5 takes 2;task at 5 takes 3");
    Check.row(20, "best(..)", found(z, 2), "5 0 1 1 0 0 1");
    // a row with task 0 first is ahead of one with task 1 first
    QuayCranes w = Check.quay("bays 9;crane 1;crane 3;task at 1 takes 2;task at 3 takes 2;task at 1 takes 2;task at 3 takes 2");
    Check.row(20, "best(..)", found(w, 2), "4 0 1 0 1 0 0 1 1");
    // 0 must come behind 1, which has a greater number: told first though
    QuayCranes v = Check.quay("bays 9;crane 4;task at 4 takes 1;task at 4 takes 1;task at 4 takes 1 after 1");
    Check.row(20, "best(..)", found(v, 2), "3 0 0 0 0 1 2");
  }

  /** "that with the least LAST": a minute less is less, and ahead of the first row */
  private static void bestLessByOne() {
    // 3 off is done in 6, 2 off in 5; 5 off in 9 more
    QuayCranes x = Check.quay("bays 9;crane 5;task at 2 takes 1;task at 7 takes 1");
    Check.eq(18, "tried()", Check.tape(x, "0 0 1").tried(), 15);
    Check.eq(18, "tried()", Check.tape(x, "0 1 0").tried(), 14);
    Check.row(20, "best(..)", found(x, 2), "14 0 0 1 0");
    Check.row(22, "zones(..): by bays", found(x, 1), "15 0 0 0 1");
    // 0 1 in 6, 1 0 in 5
    Check.row(22, "zones(..)", found(Check.quay("bays 20;crane 2;crane 7;task at 4 takes 1"), 1), "5 0 0");
    // crane 1 in 6, crane 2 in 5
    Check.row(23, "better", better(Check.planned("bays 30;crane 2;crane 13;crane 18;task at 16 takes 1", "0 0")), "5 0 2 0");
  }

  /** Minutes that are done already are no part of a LAST. */
  private static void bestOfWhatIsLeft() {
    QuayCranes x = Check.planned("bays 9;crane 1;task at 1 takes 5;task at 4 takes 3", "0 0");
    for (int m = 0; m < 5; m++) {
      // then three steps, two minutes to be calm, three
      for (int sort = 0; sort < 3; sort++) Check.row(20 + sort, "found behind " + m + ", sort " + sort, found(x, sort), 13 - m + " 0 0 0 1");
      Check.eq(30, "bound(2) behind " + m, x.bound(2), 8 - m);
      x.go(1);
    }
    for (int sort = 0; sort < 3; sort++) Check.row(20 + sort, "found behind 5, sort " + sort, found(x, sort), "8 -1 0 -1 0");
  }

  /** The last bay that a crane can come to, with the others pushed up to the ends of the quay or to a broken one, and the bay beyond. */
  private static void bestWhereACraneCanCome() {
    int[] bays = {4, 11, 18, 25};
    for (int gap = 1; gap <= 5; gap += 2) {
      for (int c = 0; c < 4; c++) {
        comes(gap, c, -1, gap * c, -1);
        comes(gap, c, -1, 29 - gap * (3 - c), 1);
        for (int broken = 0; broken < 4; broken++) {
          if (broken != c) comes(gap, c, broken, bays[broken] + gap * (c - broken), broken < c ? -1 : 1);
        }
      }
    }
  }

  private static void comes(int gap, int crane, int broken, int bay, int way) {
    StringBuilder text = new StringBuilder("bays 30;gap " + gap);
    for (int c = 0; c < 4; c++) text.append(";crane ").append(4 + 7 * c).append(" lift ").append(c == crane ? 2 : 1);
    for (int off = 0; off < 2; off++) {
      int site = bay + off * way;
      if (site < 0 || site > 29) continue;
      QuayCranes x = Check.quay(text + ";task at " + site + " takes 1 heavy 2");
      if (broken >= 0) x.breaks(broken, true);
      int tried = Check.tape(x, crane + " 0").tried();
      Check.eq(18, "tried() of " + crane + " to " + site + " of gap " + gap + " broken " + broken, tried > 0 ? 1 : 0, 1 - off);
      Check.eq(20, "best(-1)", x.best(-1), tried);
      Check.eq(22, "zones(-1)", x.zones(-1), tried);
      Check.eq(21, "easy(-1)", x.easy(-1), tried);
    }
  }

  /** Nothing left: the empty PLAN, with LAST 0, for whoever is there. */
  private static void bestOfNothing() {
    QuayCranes x = Check.quay("bays 9;crane 0;crane 4");
    for (int k = 0; k < 3; k++) {
      for (int sort = 0; sort < 3; sort++) Check.row(20 + sort, "found of nothing", found(x, sort), "0");
      for (int c = 0; c < 2; c++) Check.eq(31, "without(" + c + ")", x.without(c), 0);
      Check.eq(29, "dearest(0)", x.dearest(0), k == 2 ? -1 : k);
      Check.eq(29, "dearest(1)", x.dearest(1), k == 2 ? -1 : 0);
      Check.eq(24, "follow(2)", x.follow(2), 0);
      Check.eq(24, "follow(1)", x.follow(1), 0);
      Check.eq(24, "follow(0)", x.follow(0), 0);
      Check.eq(24, "follow(3): none", x.follow(3), -1);
      if (k < 2) x.breaks(k, true);
    }
  }

  /** "ahead of each MINUTE each CRANE (0 on) that isn't BROKEN and has no NEXT gets .. that with the fewest BAYS to it (of several the lowest)" */
  private static void easyGives() {
    // as far below as above: the lowest number; two steps, two to be calm, one, then four, three, one
    Check.row(21, "easy(..)", found(Check.quay("bays 9;crane 4;task at 6 takes 1;task at 2 takes 1"), 0), "13 0 0 0 1");
    Check.row(21, "easy(..)", found(Check.quay("bays 9;crane 4;task at 2 takes 1;task at 6 takes 1"), 0), "13 0 0 0 1");
    // a bay nearer goes ahead of the number
    Check.eq(21, "easy(11)", Check.quay("bays 9;crane 4;task at 6 takes 1;task at 3 takes 1").easy(11), 0);
    // no bay to it, and the farthest
    Check.eq(21, "easy(10)", Check.quay("bays 30;crane 0;task at 29 takes 1;task at 0 takes 1").easy(10), 1);
    // given to nobody: the second gets what is left, though it is farther
    Check.row(21, "easy(..)", found(Check.quay("bays 9;crane 4;crane 6;task at 5 takes 1;task at 8 takes 1"), 0), "5 0 1 0 0");
    Check.row(21, "easy(..): none is left for the third", found(Check.quay("bays 9;crane 0;crane 4;crane 8;task at 4 takes 1;task at 4 takes 1"), 0).substring(2), "0 1 0 0");
    // with all that comes ahead done: not given ahead of that, and as soon as it is
    QuayCranes x = Check.quay("bays 9;crane 1;crane 5;task at 1 takes 3;task at 5 takes 1 after 0");
    // three, then four steps, three to be calm, one
    Check.row(21, "easy(..): crane 0 is asked first", found(x, 0), "11 0 0 0 1");
    QuayCranes y = Check.quay("bays 9;crane 1 lift 1;crane 5;task at 1 takes 3;task at 5 takes 1 heavy 2 after 0");
    Check.row(21, "easy(..)", found(y, 0), "4 0 1 0 0");
    // done ones count as done
    Check.tape(y, "0 0").plan();
    y.go(3);
    Check.row(21, "easy(..)", found(y, 0), "1 -1 1 -1 0");
    // played apart: the plan that holds has no part in it
    QuayCranes z = Check.planned("bays 9;crane 1;crane 5;task at 1 takes 3;task at 5 takes 3", "0 1;1 0");
    Check.row(21, "easy(..)", found(z, 0), "3 0 1 0 0");
    z.breaks(0, true);
    Check.row(21, "easy(..): broken ones get none", found(z, 0).substring(0, 2), "-1");
    QuayCranes b = Check.quay("bays 9;crane 1;crane 5;task at 4 takes 1;task at 5 takes 3");
    b.breaks(0, true);
    // at 5 at once, then a step, a minute to be calm, one
    Check.row(21, "easy(..): all for the second", found(b, 0), "6 1 1 1 0");
    // eight at once
    Check.eq(21, "easy(17) of eight", Check.quay("bays 9;crane 0" + TASK.repeat(8)).easy(17), 7);
  }

  /** "until all TASKS are DONE .. that many MINUTES its LAST (none in 300)" */
  private static void easyWithin300() {
    for (int takes = 27; takes <= 30; takes++) {
      int due = takes > 29 ? -1 : 271 + takes;
      QuayCranes x = Check.quay(TO_AND_FRO + takes + " after 3");
      Check.eq(21, "easy(-1) with " + takes, x.easy(-1), due);
      Check.eq(21, "easy(4) with " + takes, x.easy(4), due == -1 ? -1 : 0);
      Check.eq(21, "easy(14) with " + takes, x.easy(14), due == -1 ? -1 : 4);
      Check.eq(24, "follow(0) with " + takes, x.follow(0), due);
      Check.eq(24, "status(1) with " + takes, x.status(1), due == -1 ? 1 : 0);
    }
  }

  private static void easyNone() {
    // one holds up its crane for good, with all else done
    QuayCranes x = Check.quay("bays 4;gap 2;crane 0;crane 2 lift 1;task at 2 takes 1 heavy 2;task at 2 takes 1");
    Check.eq(21, "easy(-1)", x.easy(-1), -1);
    Check.eq(21, "easy(1)", x.easy(1), -1);
    QuayCranes y = Check.quay("bays 5;gap 2;crane 0;crane 2 lift 1;task at 2 takes 1 heavy 2;task at 4 takes 1");
    // two steps, two minutes to be calm, one
    Check.eq(21, "easy(-1): there is room to be pushed on", y.easy(-1), 5);
  }

  /** "by BAYS rising (of one BAY by numbers), are cut into runs, one for each CRANE in turn (a BROKEN one's is empty; others' perhaps)" */
  private static void zonesRuns() {
    // eight tasks, bays falling by numbers: crane 0 has the highest numbers
    StringBuilder text = new StringBuilder("bays 16;crane 0;crane 15");
    for (int t = 0; t < 8; t++) text.append(";task at ").append(14 - 2 * t).append(" takes 1");
    QuayCranes x = Check.quay(text.toString());
    int first = 0;
    for (int t = 7; t >= 0; t--) {
      if (x.zones(t) == 0) {
        Check.eq(22, "zones(1" + t + "): in a run", x.zones(10 + t), first);
        first++;
      } else {
        Check.eq(22, "zones(" + t + ")", x.zones(t), 1);
        Check.eq(22, "zones(1" + t + "): in a run", x.zones(10 + t), 7 - t - first);
      }
    }
    Check.eq(22, "zones(7): the lowest bay", x.zones(7), 0);
    Check.eq(22, "zones(0): the highest bay", x.zones(0), 1);
    // of one bay by numbers
    Check.row(22, "zones(..)", found(Check.quay("bays 9;crane 3;task at 3 takes 3;task at 3 takes 2;task at 2 takes 1;task at 3 takes 1"), 1).substring(2).trim(),
        "0 0 0 0 1 2 0 3");
    // each may be broken: its run is empty
    for (int broken = 0; broken < 3; broken++) {
      QuayCranes y = Check.quay("bays 9;crane 0;crane 4;crane 8;task at 0 takes 1;task at 4 takes 1;task at 8 takes 1");
      Check.row(22, "zones(..)", found(y, 1), "1 0 1 2 0 0 0");
      for (int c = 0; c < 3; c++) if (c != broken) y.breaks(c, true);
      for (int t = 0; t < 3; t++) Check.eq(22, "zones(" + t + ") for " + broken, y.zones(t), y.zones(-1) == -1 ? -1 : broken);
      Check.eq(22, "zones(-1) for " + broken + ": the others are in the way", y.zones(-1), -1);
    }
    QuayCranes z = Check.quay("bays 30;crane 0;crane 14;crane 28;task at 13 takes 1;task at 14 takes 1;task at 15 takes 1");
    z.breaks(0, true);
    z.breaks(2, true);
    Check.row(22, "zones(..): one run of all", found(z, 1).substring(2).trim(), "1 1 1 0 1 2");
    // by lift: a run ends where it is too heavy
    QuayCranes h = Check.quay("bays 30;crane 0 lift 4;crane 28 lift 5;task at 1 takes 1 heavy 4;task at 2 takes 1 heavy 5;task at 3 takes 1 heavy 4");
    Check.row(22, "zones(..) by lift", found(h, 1).substring(3).trim(), "0 1 1 0 0 1");
  }

  /** "of several the first row of how many TASKS each has" */
  private static void zonesOfSeveral() {
    QuayCranes x = Check.quay("bays 9;crane 0;crane 8;task at 4 takes 1");
    Check.row(22, "zones(..): 0 1 ahead of 1 0", found(x, 1), "8 1 0");
    QuayCranes y = Check.quay("bays 9;crane 0;crane 4;crane 8;task at 2 takes 1;task at 6 takes 1");
    // 0 1 1, 0 2 0, 1 0 1, 1 1 0: the first with the least
    Check.row(22, "zones(..)", found(y, 1), "5 1 2 0 0");
    QuayCranes z = Check.quay("bays 9;crane 2;crane 4;crane 6;task at 3 takes 1;task at 3 takes 1");
    Check.row(22, "zones(..)", found(z, 1), "4 1 1 0 1");
  }

  /** "(none, if no one has one)": 300 and 301 */
  private static void zonesWithin300() {
    for (int takes = 24; takes <= 28; takes++) {
      StringBuilder text = new StringBuilder("bays 30;crane 29");
      for (int t = 0; t < 7; t++) text.append(";task at ").append(t < 4 ? 0 : 29).append(" takes 30");
      QuayCranes x = Check.quay(text + ";task at 29 takes " + takes);
      int due = takes > 26 ? -1 : 274 + takes;
      Check.eq(22, "zones(-1) with " + takes, x.zones(-1), due);
      Check.eq(22, "zones(17) with " + takes, x.zones(17), due == -1 ? -1 : 7);
      Check.eq(22, "zones(0) with " + takes, x.zones(0), due == -1 ? -1 : 0);
      Check.eq(24, "follow(1) with " + takes, x.follow(1), due);
    }
    // one behind another that lies above it: none
    QuayCranes n = Check.quay("bays 9;crane 0;task at 3 takes 1;task at 2 takes 1 after 0");
    Check.row(22, "zones(..): none", found(n, 1), "-1 -1 -1 -1 -1");
    Check.eq(24, "follow(1)", n.follow(1), -1);
    Check.eq(24, "status(1)", n.status(1), 1);
  }

  private static String better(QuayCranes x) {
    return x.better(0) + " " + x.better(1) + " " + x.better(2) + " " + x.better(3);
  }

  /** "NONE: none; HIDDEN: no QUAY, no such what." */
  private static void betterWhat() {
    QuayCranes x = Check.planned(QUAY, "0 0 1");
    int[] due = {9, 1, 1, 0};
    for (int what = -3; what < 8; what++) Check.eq(23, "better(" + what + ")", x.better(what), what >= 0 && what < 4 ? due[what] : HIDDEN);
    for (int what : new int[] {10, MIN, MAX}) Check.eq(23, "better(" + what + ")", x.better(what), HIDDEN);
    x.follow(3);
    for (int what = -3; what < 8; what++) Check.eq(23, "better(" + what + "): none", x.better(what), what >= 0 && what < 4 ? -1 : HIDDEN);
    for (int what = -3; what < 8; what++) Check.eq(23, "better(" + what + ") without a QUAY", new QuayCranes().better(what), HIDDEN);
    refused(23, "better(0)", -1, -1, y -> y.better(0));
    refused(23, "better(4)", HIDDEN, -1, y -> y.better(4));
  }

  /** "if it is less than LAST of that which holds": equal isn't, less by one is */
  private static void betterIsLess() {
    // 0 takes three minutes, then 1: a step, one to be calm, one: 6. Crane 1 does 1 in 3, 5, 6, 8 from 1 to 4 bays off
    String[] due = {"3 1 1 0", "5 1 1 0", "-1 -1 -1 -1", "-1 -1 -1 -1"};
    for (int off = 1; off <= 4; off++) {
      QuayCranes x = Check.planned("bays 20;crane 1;crane " + (2 + off) + ";task at 1 takes 3;task at 2 takes 1", "0 0 1");
      Check.eq(13, "last()", x.last(), 6);
      Check.row(23, "better from " + off, better(x), due[off - 1]);
      Check.eq(24, "follow(3) from " + off, x.follow(3), off > 2 ? -1 : off == 1 ? 3 : 5);
    }
    // all turns are as good
    Check.row(23, "better", better(Check.planned("bays 9;crane 0" + TASK.repeat(8), "0 7 6 5 4 3 2 1 0")), "-1 -1 -1 -1");
    // LAST 0 can't be less
    Check.row(23, "better of no plan", better(Check.quay(QUAY)), "-1 -1 -1 -1");
    QuayCranes x = Check.planned("bays 9;crane 0" + TASK.repeat(2), "0 0 1");
    x.go(2);
    Check.row(23, "better of what is done", better(x), "-1 -1 -1 -1");
  }

  /** "(or that is none)" */
  private static void betterThanNone() {
    QuayCranes x = Check.planned("bays 9;crane 1;task at 1 takes 1;task at 1 takes 1 after 0", "0 1 0");
    Check.eq(13, "last()", x.last(), -1);
    Check.row(23, "better", better(x), "2 0 0 0");
    Check.eq(24, "follow(3)", x.follow(3), 2);
    Check.row(25, "written", Check.written(x), "0 0 1");
    // a broken one's is taken from it
    QuayCranes b = Check.planned("bays 9;crane 1;crane 5;task at 1 takes 1;task at 4 takes 1", "0 0;1 1");
    b.breaks(1, true);
    // at 1 at once, then three steps, two minutes to be calm, one
    Check.row(23, "better", better(b), "7 1 0 1");
    b.breaks(0, true);
    Check.row(23, "better: all are broken", better(b), "-1 -1 -1 -1");
    // two wrong ones can't be mended by one
    QuayCranes two = Check.planned("bays 9;crane 1;task at 1 takes 1;task at 1 takes 1 after 0;task at 1 takes 1 after 1", "0 2 1 0");
    Check.row(23, "better: none by one", better(two), "-1 -1 -1 -1");
  }

  /** "of several the first by TASK, then CRANE, then place" */
  private static void betterOfSeveral() {
    // 0 ahead of 1, or 1 behind 0
    Check.eq(23, "better(1)", Check.planned("bays 9;crane 1;task at 1 takes 1;task at 1 takes 1 after 0", "0 1 0").better(1), 0);
    // crane 0 and crane 1 are as near
    QuayCranes c = Check.planned("bays 20;crane 3;crane 5;crane 12;task at 4 takes 1;task at 12 takes 9 after 0", "2 1 0");
    Check.row(23, "better", better(c), "12 0 0 0");
    c.breaks(0, true);
    Check.row(23, "better: the other one", better(c), "12 0 1 0");
    // ahead of 2 or behind it
    QuayCranes p = Check.planned("bays 9;crane 1;task at 1 takes 1;task at 1 takes 1 after 0;task at 1 takes 1", "0 2 1 0");
    Check.row(23, "better", better(p), "3 0 0 0");
    // the last place is behind all
    QuayCranes l = Check.planned("bays 9;crane 1;task at 1 takes 1 heavy 3;task at 1 takes 1;task at 1 takes 1 after 1", "0 0 2 1");
    Check.row(23, "better", better(l), "3 1 0 0");
    QuayCranes e = Check.planned("bays 30;crane 1;task at 9 takes 1;task at 4 takes 1;task at 5 takes 1", "0 0 1 2");
    // 4 in 6, 5 in 9, 9 in 17
    Check.row(23, "better: 0 to the end", better(e), "17 0 0 2");
  }

  /** The fullest list of the last crane: each of its tasks at each place. */
  private static void betterOfEight() {
    String four = "bays 9;crane 0;crane 2;crane 4;crane 6";
    String last = ";task at 6 takes 1".repeat(7);
    QuayCranes x = Check.planned(four + last + ";task at 0 takes 1", "3 0 1 2 3 4 5 6 7");
    // crane 3 can't come to 0, crane 0 stands there
    Check.row(23, "better", better(x), "7 7 0 0");
    Check.row(23, "better: all are as good", better(Check.planned(four + last + ";task at 6 takes 1", "3 7 6 5 4 3 2 1 0")), "-1 -1 -1 -1");
    QuayCranes y = Check.planned(four + last + ";task at 6 takes 1 after 0", "3 7 6 5 4 3 2 1 0");
    // 0 ahead of all, or 7 behind it
    Check.row(23, "better", better(y), "8 0 3 0");
    y.follow(3);
    Check.row(25, "written", Check.written(y), "0;1;2;3 0 7 6 5 4 3 2 1");
    QuayCranes z = Check.planned(four + ";task at 6 takes 1" + last.substring(0, 18 * 6) + ";task at 6 takes 1 after 0", "3 7 1 2 3 4 5 6;0 0");
    Check.row(23, "better: from another's list to the first place", better(z), "8 0 3 0");
  }

  /** "one TASK told in it that isn't DONE", "(that isn't BROKEN, by LIFT; places among all TASKS of the list without it, DONE ones too)" */
  private static void betterOfWhatIsTold() {
    // 1 isn't told: it isn't taken
    Check.row(23, "better", better(Check.planned("bays 9;crane 1;crane 5;task at 1 takes 9;task at 5 takes 1", "0 0")), "-1 -1 -1 -1");
    // nor where all would be well with it
    QuayCranes n = Check.planned(QUAY, "1 1");
    Check.eq(13, "last(): 0 comes ahead", n.last(), -1);
    Check.row(23, "better: 0 isn't told", better(n), "-1 -1 -1 -1");
    Check.eq(24, "follow(3)", n.follow(3), -1);
    // by lift: as heavy as can be, and heavier
    for (int lift = 4; lift <= 6; lift++) {
      QuayCranes x = Check.planned("bays 20;crane 1;crane 8 lift " + lift + ";task at 1 takes 9;task at 8 takes 9 heavy 5", "0 0 1");
      Check.row(23, "better with lift " + lift, better(x), lift < 5 ? "-1 -1 -1 -1" : "9 1 1 0");
    }
    // two are done, the place of the third is counted behind them
    QuayCranes x = Check.planned("bays 30;crane 1;task at 1 takes 1;task at 1 takes 1;task at 9 takes 1;task at 4 takes 1", "0 0 1 2 3");
    x.go(2);
    // 4 in 6, 9 in 15
    Check.row(23, "better", better(x), "15 2 0 3");
    x.follow(3);
    Check.row(25, "written", Check.written(x), "0 0 1 3 2");
    // ahead of a done one is as good as behind it: the first place
    QuayCranes z = Check.planned("bays 30;crane 1;crane 20;task at 1 takes 1;task at 1 takes 9;task at 20 takes 9", "0 0;1 2 1");
    z.go(1);
    Check.row(23, "better: ahead of the done one", better(z), "9 1 0 0");
  }

  /** LAST at most 300 where that which holds has none */
  private static void betterWithin300() {
    for (int takes = 27; takes <= 30; takes++) {
      QuayCranes x = Check.planned(TO_AND_FRO + takes + " after 3", "0 1 0 2 3 4");
      Check.row(23, "better with " + takes, better(x), takes > 29 ? "-1 -1 -1 -1" : 271 + takes + " 0 0 0");
    }
  }

  /** "EASY (0), ZONES (1), BEST (2), BETTER (3)", "no such which" */
  private static void followWhich() {
    for (int which = -3; which < 8; which++) {
      QuayCranes x = Check.planned(QUAY, "1 0 1");
      int[] due = {14, 9, 9, 9};
      boolean fine = which >= 0 && which < 4;
      Check.eq(24, "follow(" + which + ")", x.follow(which), fine ? due[which] : -1);
      String[] plans = {"0 0 1;1", "0 0;1 1", "0 0;1 1", "0 0;1 1"};
      Check.row(24, "written behind follow(" + which + ")", Check.written(x), fine ? plans[which] : "0;1 0 1");
      Check.eq(24, "status(1)", x.status(1), fine ? 0 : 1);
      Check.eq(24, "count(1)", x.count(1), fine ? 2 : 1);
      QuayCranes none = new QuayCranes();
      Check.eq(24, "follow(" + which + ") without a QUAY", none.follow(which), -1);
      Check.eq(24, "status(0)", none.status(0), 1);
      Check.eq(24, "status(1)", none.status(1), 0);
    }
    QuayCranes x = Check.tape(Check.quay(QUAY), "x");
    x.follow(2);
    Check.eq(24, "count(0): the tape stays", x.count(0), 1);
    // a plan in place of the one before: done ones are told no more
    QuayCranes d = Check.planned(QUAY, "0 0;1 1");
    d.go(6);
    Check.eq(24, "follow(2)", d.follow(2), 3);
    Check.row(24, "written", Check.written(d), "0;1 1");
    Check.eq(24, "follow(1)", d.follow(1), 3);
    Check.row(24, "written", Check.written(d), "0;1 1");
  }

  /** "NONE, refused: no QUAY (STATUS 0), no such which, none, more than 5 TASKS (BEST) (1)." */
  private static void followRefused() {
    for (int which : new int[] {-1, 0, 1, 2, 3, 4, MIN, MAX}) refused(24, "follow(" + which + ")", -1, 1, x -> x.follow(which));
    Supplier<QuayCranes> six = () -> Check.planned("bays 9;crane 0" + TASK.repeat(6), "0 5 4");
    Check.leaves(24, "follow(2) of six", six, x -> Check.eq(24, "follow(2)", x.follow(2), -1), 1);
    Check.leaves(24, "follow(3) of no better", six, x -> Check.eq(24, "follow(3)", x.follow(3), -1), 1);
    Check.eq(24, "follow(1) of six", six.get().follow(1), 6);
    Check.eq(24, "follow(0) of six", six.get().follow(0), 6);
  }

  /** "(that of EASY's lists gone through as a PLAN may be another one than EASY's; NONE: none, it holds all the same)" */
  private static void followHoldsAllTheSame() {
    QuayCranes x = Check.quay("bays 10;gap 2;crane 1 lift 1;crane 5;task at 3 takes 2;task at 7 takes 3 heavy 2 after 0");
    Check.eq(21, "easy(-1)", x.easy(-1), 13);
    Check.eq(24, "follow(0): sooner", x.follow(0), 9);
    // told from the first, crane 1 wants back to 3 and pushes crane 0 off 4 again and again
    QuayCranes z = Check.quay("bays 9;crane 2 lift 1;crane 3;task at 4 takes 1;task at 3 takes 1 heavy 2 after 0");
    Check.eq(21, "easy(-1)", z.easy(-1), 10);
    Check.eq(24, "follow(0): none", z.follow(0), -1);
    Check.eq(24, "status(1): not refused", z.status(1), 0);
    Check.eq(24, "count(1): an act", z.count(1), 1);
    Check.eq(24, "rule(7): it holds", z.rule(7), (1 << z.rule(3)) - 1);
    Check.eq(24, "last()", z.last(), -1);
  }

  /** "(k NONE: how many). NONE: no QUAY, no such one." */
  private static void writtenBytes() {
    String[] quays = {"bays 9;crane 0", "bays 9;crane 0;crane 1;crane 2;crane 3", "bays 9;crane 0;crane 1;crane 2;crane 3" + TASK.repeat(8), "bays 9;crane 0" + TASK.repeat(8)};
    String[] plans = {"0", "0;1;2;3", "0 7;1 6 5;2;3 4 3 2 1 0", "0 7 6 5 4 3 2 1 0"};
    for (int k = 0; k < plans.length; k++) {
      QuayCranes x = Check.planned(quays[k], plans[k]);
      int many = plans[k].length();
      for (int at = -4; at < many + 4; at++) {
        Check.eq(25, "written(" + at + ") of " + plans[k], x.written(at), at == -1 ? many : at >= 0 && at < many ? plans[k].charAt(at) : -1);
      }
      for (int at : new int[] {MIN, MAX}) Check.eq(25, "written(" + at + ")", x.written(at), -1);
      // what is written can be told again, but for what is done
      QuayCranes y = Check.planned(quays[k], Check.written(x));
      Check.row(25, "written again", Check.written(y), plans[k]);
    }
    for (int at = -2; at < 3; at++) Check.eq(25, "written(" + at + ") without a QUAY", new QuayCranes().written(at), -1);
    Check.row(25, "written of no plan", Check.written(Check.quay(quays[1])), "0;1;2;3");
    Check.row(25, "written of lines in another turn", Check.written(Check.planned(quays[2], " 03 07 ; 00 06")), "0 6;1;2;3 7");
  }

  /** "(none is greater than all; of several the lowest)", "NONE: all are BROKEN" */
  private static void dearestOfThoseThatCan() {
    String four = "bays 30;crane 3;crane 9;crane 15;crane 21";
    for (int c = 0; c < 4; c++) {
      // one has work at its bay
      QuayCranes x = Check.quay(four + ";task at " + (3 + 6 * c) + " takes 1");
      Check.eq(29, "dearest(0) for " + c, x.dearest(0), c);
      Check.eq(29, "dearest(1) for " + c + ": broken it stands in the way", x.dearest(1), -1);
      // each is alone in lifting it: none without it
      StringBuilder lifts = new StringBuilder("bays 30");
      for (int k = 0; k < 4; k++) lifts.append(";crane ").append(3 + 6 * k).append(" lift ").append(k == c ? 2 : 1);
      QuayCranes y = Check.quay(lifts + ";task at " + (3 + 6 * c) + " takes 1 heavy 2");
      Check.eq(29, "dearest(0): none is greater than all", y.dearest(0), c);
      Check.eq(29, "dearest(1): none", y.dearest(1), -1);
    }
    // all alike: the lowest that isn't broken
    QuayCranes x = Check.quay(four);
    for (int c = 0; c < 4; c++) {
      Check.eq(29, "dearest(0) with " + c + " broken", x.dearest(0), c);
      Check.eq(29, "dearest(1) with " + c + " broken", x.dearest(1), 0);
      x.breaks(c, true);
    }
    Check.eq(29, "dearest(0): all are BROKEN", x.dearest(0), -1);
    Check.eq(29, "dearest(1): all are BROKEN", x.dearest(1), -1);
    QuayCranes heavy = Check.quay("bays 30;crane 3 lift 1;crane 9 lift 1;task at 1 takes 1 heavy 2");
    Check.eq(29, "dearest(0): none anyhow", heavy.dearest(0), 0);
    heavy.breaks(0, true);
    Check.eq(29, "dearest(0): none anyhow", heavy.dearest(0), 1);
    for (int what : new int[] {-2, -1, 2, 3, MIN, MAX}) Check.eq(29, "dearest(" + what + ")", x.dearest(what), HIDDEN);
    for (int what = -1; what < 3; what++) Check.eq(29, "dearest(" + what + ") without a QUAY", new QuayCranes().dearest(what), HIDDEN);
    refused(29, "dearest(9)", HIDDEN, -1, y -> y.dearest(9));
    refused(29, "dearest(0)", 0, -1, y -> y.dearest(0));
  }

  /** "MINUTES that are left in a row of TASKS, each to be behind the one ahead of it" */
  private static void boundInARow() {
    StringBuilder text = new StringBuilder("bays 9;crane 0;crane 2;crane 4;crane 6");
    int sum = 0;
    for (int t = 0; t < 8; t++) {
      text.append(";task at ").append(t).append(" takes ").append(t + 1).append(t > 0 ? " after " + (t - 1) : "");
      sum += t + 1;
      Check.eq(30, "bound(1) of " + (t + 1), Check.quay(text.toString()).bound(1), sum);
    }
    // no row: the longest one alone; the greater of two rows; not the one with most tasks
    Check.eq(30, "bound(1)", Check.quay("bays 9;crane 0;task at 0 takes 4;task at 0 takes 5;task at 0 takes 3").bound(1), 5);
    Check.eq(30, "bound(1)", Check.quay("bays 9;crane 0;task at 0 takes 4;task at 0 takes 5;task at 0 takes 3 after 0 after 1").bound(1), 8);
    Check.eq(30, "bound(1)", Check.quay("bays 9;crane 0;task at 0 takes 2;task at 0 takes 2 after 0;task at 0 takes 2 after 1;task at 0 takes 7").bound(1), 7);
    // all of all: 8 tasks, each behind all ahead
    StringBuilder all = new StringBuilder("bays 9;crane 0");
    for (int t = 0; t < 8; t++) {
      all.append(";task at 0 takes 30");
      for (int k = Math.max(0, t - 3); k < t; k++) all.append(" after ").append(k);
    }
    Check.eq(30, "bound(1)", Check.quay(all.toString()).bound(1), 240);
    Check.eq(30, "bound(0)", Check.quay(all.toString()).bound(0), 240);
    // what is done and what has begun: minutes that are left
    QuayCranes x = Check.planned("bays 9;crane 0;task at 0 takes 4;task at 0 takes 5 after 0", "0 0 1");
    for (int m = 1; m <= 9; m++) {
      x.go(1);
      Check.eq(30, "bound(1) behind " + m, x.bound(1), 9 - m);
      Check.eq(30, "bound(0) behind " + m, x.bound(0), 9 - m);
    }
  }

  /** "MINUTES that are left together by CRANES that aren't BROKEN, rounded up" */
  private static void boundRoundedUp() {
    for (int minutes = 1; minutes <= 30; minutes++) {
      QuayCranes x = Check.quay("bays 9;crane 0;crane 2;crane 4;crane 6;task at 0 takes " + minutes);
      for (int cranes = 4; cranes > 0; cranes--) {
        int due = minutes / cranes + (minutes % cranes > 0 ? 1 : 0);
        Check.eq(30, "bound(2) of " + minutes + " by " + cranes, x.bound(2), due);
        x.breaks(cranes - 1, true);
      }
      Check.eq(30, "bound(2): all are BROKEN", x.bound(2), -1);
    }
    Check.eq(30, "bound(2) of eight", Check.quay("bays 9;crane 0;crane 2;crane 4" + ";task at 3 takes 30".repeat(8)).bound(2), 80);
  }

  /** "MINUTES that are left at GAP BAYS side by side (each such row; all BAYS, if they are fewer), together" */
  private static void boundAtGapBays() {
    for (int gap = 1; gap <= 5; gap++) {
      for (int bays = 2; bays <= 8; bays++) {
        // bay b has 2 to the b minutes, up to 16: the highest bays weigh most
        StringBuilder text = new StringBuilder("bays " + bays + ";gap " + gap + ";crane 0");
        for (int b = 0; b < bays; b++) text.append(";task at ").append(b).append(" takes ").append(1 << Math.min(4, b));
        int due = 0;
        for (int b = Math.max(0, bays - gap); b < bays; b++) due += 1 << Math.min(4, b);
        Check.eq(30, "bound(3) of " + text, Check.quay(text.toString()).bound(3), due);
        // and turned round: the lowest bays
        StringBuilder round = new StringBuilder("bays " + bays + ";gap " + gap + ";crane 0");
        for (int b = 0; b < bays; b++) round.append(";task at ").append(bays - 1 - b).append(" takes ").append(1 << Math.min(4, b));
        Check.eq(30, "bound(3) of " + round, Check.quay(round.toString()).bound(3), due);
      }
    }
    // in the midst
    Check.eq(30, "bound(3)", Check.quay("bays 30;gap 3;crane 0;task at 13 takes 5;task at 15 takes 5;task at 16 takes 6;task at 19 takes 10").bound(3), 11);
    Check.eq(30, "bound(3)", Check.quay("bays 30;gap 4;crane 0;task at 13 takes 5;task at 15 takes 5;task at 16 takes 6;task at 19 takes 10").bound(3), 16);
    Check.eq(30, "bound(3) with a gap of 5", Check.quay("bays 30;gap 5;crane 0;task at 13 takes 5;task at 15 takes 5;task at 16 takes 6;task at 19 takes 10").bound(3), 21);
  }

  /** "(0 without TASKS left; none, if all CRANES are BROKEN.)", "HIDDEN: no QUAY, no such what" */
  private static void boundOfNothing() {
    QuayCranes x = Check.planned("bays 9;crane 0;crane 5;task at 0 takes 2", "0 0");
    for (int what = -3; what < 8; what++) Check.eq(30, "bound(" + what + ")", x.bound(what), what < 0 || what > 3 ? HIDDEN : what == 2 ? 1 : 2);
    for (int what : new int[] {MIN, MAX}) Check.eq(30, "bound(" + what + ")", x.bound(what), HIDDEN);
    x.breaks(0, true);
    Check.eq(30, "bound(2): one is left", x.bound(2), 2);
    x.breaks(1, true);
    for (int what = -3; what < 8; what++) Check.eq(30, "bound(" + what + "): all are BROKEN", x.bound(what), what < 0 || what > 3 ? HIDDEN : -1);
    x.breaks(0, false);
    x.go(2);
    for (int what = -3; what < 8; what++) Check.eq(30, "bound(" + what + "): nothing is left", x.bound(what), what < 0 || what > 3 ? HIDDEN : 0);
    for (int what = -3; what < 8; what++) Check.eq(30, "bound(" + what + ") without a QUAY", new QuayCranes().bound(what), HIDDEN);
    for (int what = 0; what < 4; what++) Check.eq(30, "bound(" + what + ") of no TASKS", Check.quay("bays 9;crane 0").bound(what), 0);
  }

  /** "WITHOUT a CRANE: the LAST of BEST, if it were BROKEN." "HIDDEN: no such CRANE." */
  private static void withoutEach() {
    for (int many = 1; many <= 4; many++) {
      QuayCranes x = Check.quay("bays 9" + ";crane 0;crane 2;crane 4;crane 8".substring(0, 8 * many) + ";task at 0 takes 1");
      for (int c = -2; c < 7; c++) {
        // without crane 0, which stands there, none can come
        Check.eq(31, "without(" + c + ") of " + many, x.without(c), c < 0 || c >= many ? HIDDEN : c == 0 ? -1 : 1);
      }
      for (int c : new int[] {8, 32, MIN, MAX}) Check.eq(31, "without(" + c + ")", x.without(c), HIDDEN);
      Check.eq(31, "rule(6): nobody is", x.rule(6), 0);
      Check.eq(31, "best(-1): as ever", x.best(-1), 1);
    }
    for (int c = -1; c < 4; c++) Check.eq(31, "without(" + c + ") without a QUAY", new QuayCranes().without(c), HIDDEN);
    refused(31, "without(2)", HIDDEN, -1, x -> x.without(2));
    refused(31, "without(0)", -1, -1, x -> x.without(0));
    QuayCranes x = Check.quay(QUAY);
    for (int k = 0; k < 2; k++) {
      Check.eq(31, "without(0)", x.without(0), 14);
      Check.eq(31, "without(1)", x.without(1), -1);
      if (k == 0) x.breaks(0, true);
    }
  }

  /** "one less than the first x (1 to 61) for which LAST .. would be another one (or none) ..; 61, if there is none such" */
  private static void slackUpTo61() {
    for (int other = 1; other <= 90; other++) {
      StringBuilder text = new StringBuilder("bays 9;crane 1;crane 5;task at 1 takes 1");
      StringBuilder plan = new StringBuilder("0 0;1");
      int t = 1;
      for (int left = other; left > 0; left -= 30) {
        text.append(";task at 5 takes ").append(Math.min(30, left));
        plan.append(' ').append(t);
        t++;
      }
      QuayCranes x = Check.planned(text.toString(), plan.toString());
      Check.eq(13, "last()", x.last(), other);
      Check.eq(32, "slack(0) of " + other, x.slack(0), Math.min(61, other - 1));
      Check.eq(32, "slack(1) of " + other, x.slack(1), 0);
      Check.eq(12, "task(0, 1): as ever", x.task(0, 1), 1);
    }
    // "(or none)": 301 is none
    QuayCranes x = Check.planned(TO_AND_FRO + "29 after 3", "0 0 1 2 3 4");
    for (int t = 0; t < 5; t++) Check.eq(32, "slack(" + t + ") at 300", x.slack(t), 0);
    // not told: nothing can change
    QuayCranes y = Check.quay(QUAY);
    for (int t = 0; t < 2; t++) Check.eq(32, "slack(" + t + ") of no plan", y.slack(t), 61);
    Check.tape(y, "0 0").plan();
    Check.eq(32, "slack(1): not told", y.slack(1), 61);
    Check.eq(32, "slack(0)", y.slack(0), 0);
    y.go(5);
    Check.eq(32, "slack(0): a minute is left", y.slack(0), 0);
  }

  /** "NONE: LAST is none; HIDDEN: no such TASK, it is DONE." */
  private static void slackRefused() {
    for (int many = 0; many <= 8; many++) {
      QuayCranes x = Check.quay("bays 9;crane 0" + TASK.repeat(many));
      for (int t = -2; t < 11; t++) Check.eq(32, "slack(" + t + ") of " + many, x.slack(t), t >= 0 && t < many ? 61 : HIDDEN);
      for (int t : new int[] {32, MIN, MAX}) Check.eq(32, "slack(" + t + ")", x.slack(t), HIDDEN);
    }
    QuayCranes x = Check.planned(QUAY, "0 0;1 1");
    x.go(6);
    Check.eq(32, "slack(0): it is DONE", x.slack(0), HIDDEN);
    Check.eq(32, "slack(1)", x.slack(1), 0);
    x.breaks(1, true);
    Check.eq(32, "slack(0): it is DONE", x.slack(0), HIDDEN);
    Check.eq(32, "slack(1): LAST is none", x.slack(1), -1);
    Check.eq(32, "slack(2): no such TASK", x.slack(2), HIDDEN);
    for (int t = -1; t < 9; t++) Check.eq(32, "slack(" + t + ") without a QUAY", new QuayCranes().slack(t), HIDDEN);
    refused(32, "slack(2)", HIDDEN, -1, y -> y.slack(2));
    refused(32, "slack(0)", -1, -1, y -> y.slack(0));
  }

  /** "as a double (their sum by how many they are), as bits of a long", "HIDDEN: no TASKS, no such what." */
  private static void means() {
    for (int many = 1; many <= 8; many++) {
      for (int sum : new int[] {0, 1, 2, 7, 13, 29, 30, 29 * many - 1, 29 * many}) {
        if (sum > 29 * many) continue;
        StringBuilder text = new StringBuilder("bays 30;crane 0");
        int left = sum;
        for (int t = 0; t < many; t++) {
          int bay = Math.min(29, left);
          left -= bay;
          text.append(";task at ").append(bay).append(" takes ").append(bay + 1);
        }
        QuayCranes x = Check.quay(text.toString());
        Check.eq(33, "mean(0) of " + sum + " by " + many, x.mean(0), Double.doubleToLongBits((double) sum / many));
        Check.eq(33, "mean(1) of " + (sum + many) + " by " + many, x.mean(1), Double.doubleToLongBits((double) (sum + many) / many));
      }
    }
    QuayCranes x = Check.quay(QUAY);
    for (int what : new int[] {-2, -1, 2, 3, MIN, MAX}) Check.eq(33, "mean(" + what + ")", x.mean(what), HIDDEN);
    for (int what = -1; what < 3; what++) {
      Check.eq(33, "mean(" + what + ") of no TASKS", Check.quay("bays 9;crane 0").mean(what), HIDDEN);
      Check.eq(33, "mean(" + what + ") without a QUAY", new QuayCranes().mean(what), HIDDEN);
    }
    refused(33, "mean(2)", HIDDEN, -1, y -> (int) y.mean(2));
  }

  /** "of several the lowest", "likewise; NONE: none", "NONE: no QUAY, no such what" */
  private static void mostLeft() {
    String four = "bays 30;crane 0;crane 5;crane 10;crane 29";
    for (int c = 0; c < 4; c++) {
      QuayCranes x = Check.quay(four + ";task at 0 takes 4;task at 0 takes 4;task at 0 takes 5");
      Check.tape(x, c + " 2").plan();
      Check.eq(38, "most(0): the one told something", x.most(0), c);
      Check.tape(x, c + " 0 1;" + (c + 1) % 4 + " 2").plan();
      Check.eq(38, "most(0): together", x.most(0), c);
      Check.tape(x, c + " 0;" + (c + 1) % 4 + " 1").plan();
      Check.eq(38, "most(0): the lowest of two", x.most(0), Math.min(c, (c + 1) % 4));
    }
    QuayCranes none = Check.quay(four);
    for (int what = -2; what < 7; what++) Check.eq(38, "most(" + what + ") of nothing", none.most(what), what == 2 || what < 0 || what > 3 ? -1 : 0);
    for (int what : new int[] {MIN, MAX}) Check.eq(38, "most(" + what + ")", none.most(what), -1);
    for (int what = -2; what < 7; what++) Check.eq(38, "most(" + what + ") without a QUAY", new QuayCranes().most(what), -1);
    // bays: the first, the last, two alike; what is done doesn't count
    for (int bay : new int[] {0, 1, 15, 28, 29}) {
      QuayCranes x = Check.quay(four + ";task at " + bay + " takes 3;task at 14 takes 2");
      Check.eq(38, "most(1)", x.most(1), bay);
      QuayCranes y = Check.quay(four + ";task at " + bay + " takes 3;task at 14 takes 2;task at 14 takes 1");
      Check.eq(38, "most(1): of two alike the lowest", y.most(1), Math.min(bay, 14));
    }
    // two bays side by side with more together
    Check.eq(38, "most(1)", Check.quay(four + ";task at 4 takes 3;task at 6 takes 2;task at 7 takes 2").most(1), 4);
    QuayCranes x = Check.planned(four + ";task at 0 takes 4;task at 5 takes 3", "0 0");
    for (int m = 0; m <= 4; m++) {
      Check.eq(38, "most(1) behind " + m, x.most(1), m < 2 ? 0 : 5);
      Check.eq(38, "most(2): by all its minutes, behind " + m, x.most(2), 0);
      x.go(1);
    }
    // the longest: the lowest of several, the last of eight
    Check.eq(38, "most(2)", Check.quay("bays 9;crane 0" + TASK.repeat(8)).most(2), 0);
    Check.eq(38, "most(2)", Check.quay("bays 9;crane 0" + TASK.repeat(7) + ";task at 0 takes 2").most(2), 7);
    Check.eq(38, "most(2)", Check.quay("bays 9;crane 0" + TASK + ";task at 0 takes 30;task at 1 takes 30").most(2), 1);
    // who swings most: none at first, alike, one more than another
    QuayCranes s = Check.quay("bays 30;crane 10;crane 20;task at 11 takes 1;task at 25 takes 1");
    Check.eq(38, "most(3) at first", s.most(3), 0);
    Check.tape(s, "0 0;1 1").plan();
    s.go(1);
    Check.eq(38, "most(3): alike", s.most(3), 0);
    s.go(1);
    Check.eq(38, "most(3): crane 1 goes on", s.most(3), 1);
    refused(38, "most(4)", -1, -1, y -> y.most(4));
  }
}
