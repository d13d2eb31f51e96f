/** Section 2 of the Terms, promises 13 to 17 and 26 to 28: each sentence that names a boundary of a minute or of a span, by itself. */
public final class EdgesOfMinutes {
  private static final int MIN = Integer.MIN_VALUE;
  private static final int MAX = Integer.MAX_VALUE;
  private static final int[] FAR_OFF = {MIN, MAX, -301, 500, 501, 1000000};
  private static final String QUAY = "bays 10;gap 2;crane 1;crane 5;task at 3 takes 2;task at 6 takes 3 after 0";

  public static void main(String[] args) {
    nextIsTheFirstNotDone();
    worksWithASwayBelowOne();
    worksBehindWhatIsDone();
    worksUntilItHasAll();
    stepsWithGapLeft();
    pushedOnABayThatIsThere();
    pushedInARow();
    whoWorksIsNotPushed();
    whoIsBrokenIsNotPushed();
    whoHasMovedIsNotPushed();
    whoWaitsIsPushed();
    whoWasPushedDoesNotStep();
    craneByCrane();
    swaysByMoves();
    lastOfNothing();
    last300();
    deedRests();
    whereTo300();
    deedTo299();
    deedsIn300();
    doneByTasks();
    nearestInSpan();
    nearestOfOne();
    swingsInSpan();
    idleInSpan();
    noQuay();
    Check.ends("EdgesOfMinutes");
  }

  /** "NEXT of a CRANE: the first of its TASKS that isn't DONE." */
  private static void nextIsTheFirstNotDone() {
    // the second is done by the other crane ahead of the first: it is skipped later on
    QuayCranes x = Check.quay("bays 9;crane 1;crane 7;task at 1 takes 3;task at 7 takes 1;task at 1 takes 1");
    Check.tape(x, "1 1").plan();
    x.go(1);
    Check.tape(x, "0 0 2").plan();
    Check.eq(11, "crane(0, 2)", x.crane(0, 2), 0);
    Check.eq(11, "crane(1, 2): nothing told", x.crane(1, 2), -1);
    x.go(2);
    Check.eq(11, "crane(0, 2): a minute is left", x.crane(0, 2), 0);
    x.go(1);
    Check.eq(11, "crane(0, 2)", x.crane(0, 2), 2);
    x.go(1);
    Check.eq(11, "crane(0, 2): all are done", x.crane(0, 2), -1);
    Check.eq(15, "deed(0, 0): all are done", x.deed(0, 0), 0);
    // a first one that can't be worked holds up the second
    QuayCranes y = Check.planned("bays 9;crane 1;task at 5 takes 1;task at 1 takes 1 after 0;task at 1 takes 1", "0 1 2 0");
    Check.eq(11, "crane(0, 2)", y.crane(0, 2), 1);
    Check.eq(16, "deeds(0, 300, 3)", y.deeds(0, 300, 3), 300);
  }

  /** "with a SWAY below 1": the floats just about 1, and 1 itself, which isn't below */
  private static void worksWithASwayBelowOne() {
    // 27 minutes that end at a SWAY of exactly 1
    QuayCranes x = new Swung("MRRRMRMMRMRMRMRRRMRMMRMRRMR").crane;
    Check.eq(11, "crane(0, 5): 1", x.crane(0, 5), Float.floatToIntBits(1f));
    Check.eq(11, "crane(0, 4): 1", x.crane(0, 4), 10);
    Check.eq(9, "more", x.more(x.crane(0, 0), 2, 1, -1), 2);
    Check.tape(x, "0 2").plan();
    Check.row(15, "deed(0, ..) at 1", Check.deeds(x, 0, 4), "3 4 4 0");
    Check.eq(13, "last()", x.last(), 3);
    Check.eq(15, "deed(0, 0): one that waits can still step", Check.tape(x, "0 1").plan() > 0 ? x.deed(0, 0) : -9, 1);
    // a minute less: 2; a minute more: 0.5
    QuayCranes two = new Swung("MRRRMRMMRMRMRMRRRMRMMRMRRM").crane;
    Check.eq(11, "crane(0, 5): 2", two.crane(0, 5), Float.floatToIntBits(2f));
    two.more(two.crane(0, 0), 2, 1, -1);
    Check.tape(two, "0 2").plan();
    Check.row(15, "deed(0, ..) at 2", Check.deeds(two, 0, 5), "3 3 4 4 0");
    QuayCranes half = new Swung("MRRRMRMMRMRMRMRRRMRMMRMRRMRR").crane;
    half.more(half.crane(0, 0), 2, 1, -1);
    Check.tape(half, "0 2").plan();
    Check.row(15, "deed(0, ..) at 0.5", Check.deeds(half, 0, 3), "4 4 0");
    // as it begins: 1.96875 halved is 0.984375
    QuayCranes below = new Swung("MRRMRMR").crane;
    float sway = 0f;
    for (char one : "MRRMRMR".toCharArray()) sway = one == 'M' ? sway * 0.75f + 1.5f : sway * 0.5f;
    Check.eq(11, "crane(0, 5)", below.crane(0, 5), Float.floatToIntBits(sway));
    below.more(below.crane(0, 0), 1, 1, -1);
    Check.tape(below, "0 2").plan();
    Check.eq(15, "deed(0, 0) at " + sway, below.deed(0, 0), sway < 1f ? 4 : 3);
    // one step: 1.5, then 0.75
    QuayCranes one = Check.planned("bays 9;crane 0;task at 1 takes 1", "0 0");
    Check.row(15, "deed(0, ..)", Check.deeds(one, 0, 4), "1 3 4 0");
  }

  /** "all that comes ahead (after) of which is DONE": as the minute begins */
  private static void worksBehindWhatIsDone() {
    QuayCranes x = Check.planned("bays 9;crane 1;crane 5;crane 7;task at 1 takes 2;task at 5 takes 3;task at 7 takes 1 after 0 after 1", "0 0;1 1;2 2");
    Check.row(15, "deed(2, ..)", Check.deeds(x, 2, 5), "3 3 3 4 0");
    Check.eq(17, "doneBy(2)", x.doneBy(2), 4);
    x.go(2);
    Check.eq(15, "deed(2, 0): one of two is done", x.deed(2, 0), 3);
    x.go(1);
    Check.eq(15, "deed(2, 0): both are done", x.deed(2, 0), 4);
    // in a row: the third waits for the second alone
    QuayCranes y = Check.planned("bays 9;crane 1;crane 5;crane 7;task at 1 takes 1;task at 5 takes 1 after 0;task at 7 takes 1 after 1", "0 0;1 1;2 2");
    Check.eq(13, "last()", y.last(), 3);
    Check.eq(15, "deed(1, 0)", y.deed(1, 0), 3);
    Check.eq(15, "deed(1, 1)", y.deed(1, 1), 4);
    Check.eq(15, "deed(2, 1)", y.deed(2, 1), 3);
    Check.eq(15, "deed(2, 2)", y.deed(2, 2), 4);
  }

  /** "Who WORKS has a MINUTE more of the TASK: DONE, when it has all." */
  private static void worksUntilItHasAll() {
    for (int takes = 1; takes <= 30; takes++) {
      QuayCranes x = Check.planned("bays 9;crane 4;task at 4 takes " + takes, "0 0");
      Check.eq(13, "last() of " + takes, x.last(), takes);
      Check.eq(17, "doneBy(0) of " + takes, x.doneBy(0), takes);
      Check.eq(16, "deeds(0, 300, 4)", x.deeds(0, 300, 4), takes);
      Check.eq(15, "deed(0, ..)", x.deed(0, takes - 1), 4);
      Check.eq(15, "deed(0, ..)", x.deed(0, takes), 0);
      if (takes > 1) x.go(takes - 1);
      Check.eq(12, "task(0, 4)", x.task(0, 4), takes - 1);
      Check.eq(12, "task(0, 5)", x.task(0, 5), 0);
      x.go(1);
      Check.eq(12, "task(0, 4)", x.task(0, 4), takes);
      Check.eq(12, "task(0, 5)", x.task(0, 5), 1);
      x.go(1);
      Check.eq(12, "task(0, 4): no more", x.task(0, 4), takes);
    }
  }

  /** "it STEPS .. if it can: the CRANE beside it on that side (if any) is at least GAP from there" */
  private static void stepsWithGapLeft() {
    for (int gap = 1; gap <= 5; gap++) {
      for (int apart = gap; apart <= gap + 3; apart++) {
        boolean pushes = apart - 1 < gap;
        QuayCranes up = Check.planned("bays 30;gap " + gap + ";crane 9;crane " + (9 + apart) + ";task at 29 takes 1", "0 0");
        Check.eq(15, "deed(0, 0)", up.deed(0, 0), 1);
        Check.eq(15, "deed(1, 0) from " + apart + " with gap " + gap, up.deed(1, 0), pushes ? 2 : 0);
        Check.eq(14, "where(0, 1)", up.where(0, 1), 10);
        Check.eq(14, "where(1, 1)", up.where(1, 1), 9 + apart + (pushes ? 1 : 0));
        QuayCranes down = Check.planned("bays 30;gap " + gap + ";crane 9;crane " + (9 + apart) + ";task at 0 takes 1", "1 0");
        Check.eq(15, "deed(1, 0)", down.deed(1, 0), 1);
        Check.eq(15, "deed(0, 0) from " + apart + " with gap " + gap, down.deed(0, 0), pushes ? 2 : 0);
        Check.eq(14, "where(0, 1)", down.where(0, 1), pushes ? 8 : 9);
        Check.eq(14, "where(1, 1)", down.where(1, 1), 8 + apart);
      }
    }
    // "on that side": the one behind it is left where it is
    QuayCranes x = Check.planned("bays 9;crane 3;crane 4;task at 8 takes 1;task at 0 takes 1", "1 0");
    Check.row(14, "where(0, ..)", Check.wheres(x, 0, 4), "3 3 3 3 3");
    Check.row(14, "where(1, ..)", Check.wheres(x, 1, 4), "4 5 6 7 8");
    Check.tape(x, "0 1").plan();
    Check.row(14, "where(1, ..)", Check.wheres(x, 1, 3), "4 4 4 4");
    // "if any": alone it goes from end to end
    QuayCranes one = Check.planned("bays 30;crane 0;task at 29 takes 1;task at 0 takes 1", "0 0 1");
    Check.eq(14, "where(0, 29)", one.where(0, 29), 29);
    Check.eq(14, "where(0, 33)", one.where(0, 33), 29);
    Check.eq(14, "where(0, 62)", one.where(0, 62), 0);
    Check.eq(13, "last()", one.last(), 66);
  }

  /** "is PUSHED one BAY on: .. on a BAY that is there" */
  private static void pushedOnABayThatIsThere() {
    for (int gap = 1; gap <= 5; gap++) {
      for (int room = 0; room <= 3; room++) {
        int last = 9 + gap + room;
        QuayCranes up = Check.planned("bays " + (last + 1) + ";gap " + gap + ";crane 9;crane " + (9 + gap) + ";task at " + last + " takes 1", "0 0");
        Check.eq(14, "where(0, 300) with room " + room, up.where(0, 300), 9 + room);
        Check.eq(14, "where(1, 300) with room " + room, up.where(1, 300), last);
        Check.eq(16, "deeds(0, 300, 1)", up.deeds(0, 300, 1), room);
        Check.eq(16, "deeds(0, 300, 3)", up.deeds(0, 300, 3), 300 - room);
        Check.eq(16, "deeds(1, 300, 2)", up.deeds(1, 300, 2), room);
        Check.eq(13, "last()", up.last(), -1);
        QuayCranes down = Check.planned("bays 30;gap " + gap + ";crane " + room + ";crane " + (room + gap) + ";task at 0 takes 1", "1 0");
        Check.eq(14, "where(0, 300) with room " + room, down.where(0, 300), 0);
        Check.eq(14, "where(1, 300) with room " + room, down.where(1, 300), gap);
        Check.eq(16, "deeds(1, 300, 1)", down.deeds(1, 300, 1), room);
        Check.eq(16, "deeds(1, 300, 3)", down.deeds(1, 300, 3), 300 - room);
        Check.eq(16, "deeds(0, 300, 2)", down.deeds(0, 300, 2), room);
        Check.eq(13, "last()", down.last(), -1);
      }
    }
  }

  /** "and can likewise": rows of two to four, pushed to the end of the quay and no further; none of a row that can't go moves */
  private static void pushedInARow() {
    for (int many = 2; many <= 4; many++) {
      for (int gap = 1; gap <= 3; gap++) {
        for (int room = 0; room <= 2; room++) {
          StringBuilder text = new StringBuilder("bays " + (gap * (many - 1) + 1 + room) + ";gap " + gap);
          for (int c = 0; c < many; c++) text.append(";crane ").append(c * gap);
          QuayCranes up = Check.planned(text + ";task at " + (gap * (many - 1) + room) + " takes 1", "0 0");
          for (int c = 0; c < many; c++) {
            Check.eq(14, "where(" + c + ", 300) of " + text, up.where(c, 300), c * gap + room);
            Check.eq(16, "deeds(" + c + ", 300, ..) of " + text, up.deeds(c, 300, c == 0 ? 1 : 2), room);
          }
          Check.eq(15, "deed(0, ..)", up.deed(0, room), 3);
          StringBuilder high = new StringBuilder("bays 30;gap " + gap);
          for (int c = 0; c < many; c++) high.append(";crane ").append(c * gap + room);
          QuayCranes down = Check.planned(high + ";task at 0 takes 1", many - 1 + " 0");
          for (int c = 0; c < many; c++) {
            Check.eq(14, "where(" + c + ", 300) of " + high, down.where(c, 300), c * gap);
            Check.eq(16, "deeds(" + c + ", 300, ..) of " + high, down.deeds(c, 300, c == many - 1 ? 1 : 2), room);
          }
        }
      }
    }
    // a row with a free bay in it: only those ahead of the free bay are pushed
    QuayCranes x = Check.planned("bays 9;crane 0;crane 1;crane 3;crane 4;task at 8 takes 1", "0 0");
    Check.row(15, "deeds of 1, 2, 3", x.deed(1, 0) + " " + x.deed(2, 0) + " " + x.deed(3, 0), "2 0 0");
    Check.row(15, "deeds of 1, 2, 3", x.deed(1, 1) + " " + x.deed(2, 1) + " " + x.deed(3, 1), "2 2 2");
  }

  /** "if it doesn't WORK" */
  private static void whoWorksIsNotPushed() {
    // crane 1 works for two minutes at 3, then gives way
    QuayCranes x = Check.planned("bays 9;crane 2;crane 3;task at 3 takes 2;task at 5 takes 1", "0 1;1 0");
    Check.row(15, "deed(0, ..)", Check.deeds(x, 0, 6), "3 3 1 1 1 3");
    Check.row(15, "deed(1, ..)", Check.deeds(x, 1, 6), "4 4 2 2 2 0");
    // at the far end of a row: nobody of the row moves
    QuayCranes y = Check.planned("bays 9;crane 1;crane 2;crane 3;task at 3 takes 2;task at 5 takes 1", "0 1;2 0");
    Check.row(15, "deed(0, ..)", Check.deeds(y, 0, 4), "3 3 1 1");
    Check.row(15, "deed(1, ..)", Check.deeds(y, 1, 4), "0 0 2 2");
    Check.row(15, "deed(2, ..)", Check.deeds(y, 2, 4), "4 4 2 2");
    // with a bay more between it needn't be pushed
    QuayCranes z = Check.planned("bays 9;crane 1;crane 3;task at 3 takes 9;task at 8 takes 1", "0 1;1 0");
    Check.row(15, "deed(0, ..)", Check.deeds(z, 0, 3), "1 3 3");
    // downwards
    QuayCranes d = Check.planned("bays 9;crane 3;crane 4;task at 3 takes 1;task at 1 takes 1", "0 0;1 1");
    Check.row(15, "deed(1, ..)", Check.deeds(d, 1, 4), "3 1 1 1");
    Check.row(15, "deed(0, ..)", Check.deeds(d, 0, 4), "4 2 2 2");
  }

  /** "isn't BROKEN" */
  private static void whoIsBrokenIsNotPushed() {
    for (int broken = 1; broken < 4; broken++) {
      QuayCranes x = Check.planned("bays 9;crane 1;crane 2;crane 3;crane 4;task at 8 takes 1", "0 0");
      x.breaks(broken, true);
      for (int c = 0; c < 4; c++) Check.eq(15, "deed(" + c + ", 0) with " + broken, x.deed(c, 0), c == 0 ? 3 : 0);
      x.breaks(broken, false);
      for (int c = 0; c < 4; c++) Check.eq(15, "deed(" + c + ", 0) with none", x.deed(c, 0), c == 0 ? 1 : 2);
    }
    // up to it the others go, the gap stays
    QuayCranes x = Check.planned("bays 20;gap 3;crane 1;crane 4;crane 12;task at 19 takes 1", "0 0");
    x.breaks(2, true);
    Check.eq(14, "where(1, 300)", x.where(1, 300), 9);
    Check.eq(14, "where(0, 300)", x.where(0, 300), 6);
    Check.eq(26, "nearest(300)", x.nearest(300), 0);
    // it doesn't step, work or wait itself, and its load calms down
    QuayCranes y = Check.planned("bays 9;crane 1;task at 3 takes 1;task at 1 takes 1", "0 0 1");
    y.go(1);
    y.breaks(0, true);
    Check.row(15, "deed(0, ..)", Check.deeds(y, 0, 4), "0 0 0 0");
    y.go(1);
    Check.eq(11, "crane(0, 5)", y.crane(0, 5), Float.floatToIntBits(0.75f));
    Check.eq(11, "crane(0, 0)", y.crane(0, 0), 2);
    QuayCranes z = Check.planned("bays 9;crane 1;task at 1 takes 1", "0 0");
    z.breaks(0, true);
    Check.eq(15, "deed(0, 0): at the bay", z.deed(0, 0), 0);
    Check.eq(13, "last()", z.last(), -1);
  }

  /** "hasn't moved in this MINUTE" */
  private static void whoHasMovedIsNotPushed() {
    // both want to 2: crane 0 is there first
    QuayCranes x = Check.planned("bays 5;crane 1;crane 3;task at 2 takes 9;task at 2 takes 9", "0 0;1 1");
    Check.eq(15, "deed(0, 0)", x.deed(0, 0), 1);
    Check.eq(15, "deed(1, 0): it has stepped", x.deed(1, 0), 3);
    Check.eq(15, "deed(1, 1): now it is pushed away", x.deed(1, 1), 1);
    Check.eq(15, "deed(0, 1)", x.deed(0, 1), 2);
    // one that was pushed isn't pushed back in the same minute
    QuayCranes y = Check.planned("bays 9;crane 1;crane 2;crane 4;task at 8 takes 1;task at 0 takes 1", "0 0;2 1");
    Check.row(15, "deeds in minute 0", y.deed(0, 0) + " " + y.deed(1, 0) + " " + y.deed(2, 0), "1 2 3");
  }

  /** Who waits - for another task, to be calm, or as it can't step - is pushed all the same. */
  private static void whoWaitsIsPushed() {
    QuayCranes x = Check.planned("bays 9;crane 2;crane 3;task at 8 takes 1;task at 3 takes 1 after 0", "0 0;1 1");
    Check.eq(15, "deed(1, 0): it was at the bay of its next", x.deed(1, 0), 2);
    // calm enough only behind a minute more
    QuayCranes y = Check.planned("bays 9;crane 1;crane 4;task at 3 takes 1;task at 8 takes 1", "0 1;1 0");
    Check.row(15, "deed(1, ..)", Check.deeds(y, 1, 3), "1 2 2");
    Check.row(15, "deed(0, ..)", Check.deeds(y, 0, 3), "1 1 1");
  }

  /** "haven't moved in this MINUTE": one STEP or push a minute */
  private static void whoWasPushedDoesNotStep() {
    QuayCranes x = Check.planned("bays 9;crane 1;crane 2;task at 8 takes 1;task at 7 takes 1", "0 0;1 1");
    Check.eq(15, "deed(1, 0)", x.deed(1, 0), 2);
    Check.eq(14, "where(1, 1): one bay", x.where(1, 1), 3);
    Check.eq(14, "where(1, 2): one bay", x.where(1, 2), 4);
    QuayCranes y = Check.planned("bays 9;crane 1;crane 2;task at 8 takes 1;task at 0 takes 1", "0 0;1 1");
    Check.eq(14, "where(1, 1): not back", y.where(1, 1), 3);
    Check.eq(15, "deed(1, 0)", y.deed(1, 0), 2);
  }

  /** "CRANE by CRANE" (0 on) */
  private static void craneByCrane() {
    // crane 0 goes on, crane 1 into the bay that it left - and not the other way round
    QuayCranes x = Check.planned("bays 9;crane 3;crane 4;task at 1 takes 1;task at 2 takes 1", "0 0;1 1");
    Check.row(15, "deeds in minute 0", x.deed(0, 0) + " " + x.deed(1, 0), "1 1");
    QuayCranes y = Check.planned("bays 9;crane 3;crane 4;task at 6 takes 1;task at 7 takes 1", "0 0;1 1");
    Check.row(15, "deeds in minute 0", y.deed(0, 0) + " " + y.deed(1, 0), "1 2");
    // crane 1 pushes crane 2 on, which would have stepped itself
    QuayCranes z = Check.planned("bays 9;crane 0;crane 3;crane 4;task at 6 takes 1;task at 7 takes 1", "1 0;2 1");
    Check.row(15, "deeds in minute 0", z.deed(0, 0) + " " + z.deed(1, 0) + " " + z.deed(2, 0), "0 1 2");
    // crane 0 can't (crane 1 works), crane 2 can
    QuayCranes w = Check.planned("bays 9;crane 0;crane 1;crane 2;task at 1 takes 3;task at 6 takes 1;task at 5 takes 1", "0 1;1 0;2 2");
    Check.row(15, "deeds in minute 0", w.deed(0, 0) + " " + w.deed(1, 0) + " " + w.deed(2, 0), "3 4 1");
  }

  /** "SWAY (a float, 0 at first): of who moved: SWAY times 0.75, and 1.5; of others: SWAY times 0.5 (floats, one after the other)." */
  private static void swaysByMoves() {
    QuayCranes x = Check.planned("bays 30;gap 2;crane 0;crane 2;task at 27 takes 1", "0 0");
    float sway = 0f;
    for (int m = 0; m < 27; m++) {
      for (int c = 0; c < 2; c++) Check.eq(27, "swings(" + c + ", " + m + ")", x.swings(c, m), Float.floatToIntBits(sway));
      sway = sway * 0.75f;
      sway = sway + 1.5f;
    }
    x.go(27);
    for (int m = 0; m < 100; m++) {
      for (int c = 0; c < 2; c++) Check.eq(11, "crane(" + c + ", 5) behind " + m, x.crane(c, 5), Float.floatToIntBits(sway));
      x.go(1);
      sway = sway * 0.5f;
    }
    QuayCranes y = Check.planned("bays 30;crane 0;task at 2 takes 1", "0 0");
    y.go(100);
    y.go(49);
    sway = 2.625f;
    for (int k = 2; k < 149; k++) sway = sway * 0.5f;
    for (int m = 149; m < 156; m++) {
      Check.eq(11, "crane(0, 5) behind " + m, y.crane(0, 5), Float.floatToIntBits(sway));
      Check.eq(27, "swings(0, 300) behind " + m, y.swings(0, 300), Float.floatToIntBits(sway));
      y.go(1);
      sway = sway * 0.5f;
    }
    Check.eq(11, "crane(0, 5): nothing is left", y.crane(0, 5), 0);
  }

  /** "(0, if they are)" */
  private static void lastOfNothing() {
    Check.eq(13, "last() of no tasks", Check.quay("bays 9;crane 0").last(), 0);
    QuayCranes x = Check.quay(QUAY);
    Check.eq(13, "last() of no plan", x.last(), 0);
    Check.eq(6, "plan() that tells none", Check.tape(x, "0;1").plan(), 0);
    Check.tape(x, "0 0").plan();
    x.go(5);
    Check.eq(13, "last(): a minute is left", x.last(), 1);
    x.go(1);
    Check.eq(13, "last(): it is done", x.last(), 0);
    x.breaks(0, true);
    Check.eq(13, "last(): it is done, whoever is broken", x.last(), 0);
    Check.eq(13, "last() of all TASKS told, not of all", x.task(1, 5), 0);
  }

  /** "none, if it takes more than 300": 30 minutes each at 0 and 10 in turn, 13 on the way, and so many at last */
  private static String far(int takes) {
    StringBuilder text = new StringBuilder("bays 30;crane 0");
    for (int t = 0; t < 7; t++) text.append(";task at ").append(t % 2 * 10).append(" takes 30");
    return text + ";task at 0 takes " + takes;
  }

  private static void last300() {
    String all = "0 0 1 2 3 4 5 6 7";
    for (int takes = 10; takes <= 15; takes++) {
      int due = 288 + takes;
      QuayCranes x = Check.tape(Check.quay(far(takes)), all);
      Check.eq(18, "tried() of " + due, x.tried(), due > 300 ? -1 : due);
      Check.eq(6, "plan() of " + due, Check.tape(x, all).plan(), due > 300 ? -1 : due);
      Check.eq(13, "last() of " + due, x.last(), due > 300 ? -1 : due);
      Check.eq(17, "doneBy(7) of " + due, x.doneBy(7), due > 300 ? -1 : due);
      Check.eq(17, "doneBy(6) of " + due, x.doneBy(6), 288);
      Check.eq(15, "deed(0, 299) of " + due, x.deed(0, 299), due >= 300 ? 4 : 0);
      Check.eq(16, "deeds(0, 300, 4) of " + due, x.deeds(0, 300, 4), Math.min(210 + takes, 222));
      Check.eq(28, "idle(300) of " + due, x.idle(300), Math.max(90 - takes, 78));
      Check.eq(32, "slack(7) of " + due, x.slack(7), due > 300 ? -1 : 0);
      x.go(1);
      Check.eq(13, "last() of " + due + " from then", x.last(), due > 301 ? -1 : due - 1);
      Check.eq(17, "doneBy(7) of " + due + " from then", x.doneBy(7), due > 301 ? -1 : due - 1);
    }
  }

  /** "0 RESTS (none of the following; BROKEN too)" */
  private static void deedRests() {
    QuayCranes x = Check.quay(QUAY);
    for (int c = 0; c < 2; c++) {
      for (int d = 0; d <= 4; d++) Check.eq(16, "deeds(" + c + ", 300, " + d + ") of no plan", x.deeds(c, 300, d), d == 0 ? 300 : 0);
    }
    Check.tape(x, "0 0;1 1").plan();
    x.breaks(0, true);
    x.breaks(1, true);
    for (int c = 0; c < 2; c++) {
      for (int d = 0; d <= 4; d++) Check.eq(16, "deeds(" + c + ", 300, " + d + ") of broken ones", x.deeds(c, 300, d), d == 0 ? 300 : 0);
    }
    // who rests can be pushed
    QuayCranes y = Check.planned("bays 9;crane 1;crane 2;task at 3 takes 1", "0 0");
    Check.row(15, "deed(1, ..)", Check.deeds(y, 1, 4), "2 2 0 0");
  }

  /** "behind m MINUTES from now (0 to 300): the BAY of a CRANE. NONE: no such ones." */
  private static void whereTo300() {
    QuayCranes x = Check.planned(QUAY, "0 0;1 1");
    for (int m = -3; m <= 304; m++) Check.eq(14, "where(1, " + m + ")", x.where(1, m), m < 0 || m > 300 ? -1 : m == 0 ? 5 : 6);
    for (int m : FAR_OFF) Check.eq(14, "where(0, " + m + ")", x.where(0, m), -1);
    for (int many = 1; many <= 4; many++) {
      QuayCranes y = Check.quay("bays 9" + ";crane 0;crane 2;crane 4;crane 8".substring(0, 8 * many));
      for (int c = -2; c < 7; c++) {
        boolean there = c >= 0 && c < many;
        for (int m : new int[] {0, 300}) Check.eq(14, "where(" + c + ", " + m + ") of " + many, y.where(c, m), there ? c == 3 ? 8 : 2 * c : -1);
      }
      for (int c : FAR_OFF) Check.eq(14, "where(" + c + ", 0)", y.where(c, 0), -1);
    }
    // far out the plan is still gone by: crane 0 is on its way in minute 288
    QuayCranes far = Check.planned(far(1).replace(";task at 0 takes 1", ";task at 20 takes 1"), "0 0 1 2 3 4 5 6 7");
    Check.eq(14, "where(0, 288)", far.where(0, 288), 0);
    Check.eq(14, "where(0, 299)", far.where(0, 299), 11);
    Check.eq(14, "where(0, 300)", far.where(0, 300), 12);
    Check.eq(15, "deed(0, 299)", far.deed(0, 299), 1);
    x.go(100);
    Check.eq(14, "where(0, 0): from now", x.where(0, 0), 3);
  }

  /** "in the MINUTE m from now (0 on, to 299). NONE: no such ones." */
  private static void deedTo299() {
    QuayCranes x = Check.planned(QUAY, "0 0;1 1");
    for (int m = -3; m <= 303; m++) {
      int due = m < 0 || m > 299 ? -1 : m == 0 ? 1 : m < 6 ? 3 : m < 9 ? 4 : 0;
      Check.eq(15, "deed(1, " + m + ")", x.deed(1, m), due);
    }
    for (int m : FAR_OFF) Check.eq(15, "deed(0, " + m + ")", x.deed(0, m), -1);
    for (int many = 1; many <= 4; many++) {
      QuayCranes y = Check.quay("bays 9" + ";crane 0;crane 2;crane 4;crane 8".substring(0, 8 * many));
      for (int c = -2; c < 7; c++) {
        for (int m : new int[] {0, 299}) Check.eq(15, "deed(" + c + ", " + m + ") of " + many, y.deed(c, m), c >= 0 && c < many ? 0 : -1);
      }
      for (int c : FAR_OFF) Check.eq(15, "deed(" + c + ", 0)", y.deed(c, 0), -1);
    }
  }

  /** "in the n MINUTES from now (0 to 300): how many of a CRANE have this DEED. NONE: no such ones." */
  private static void deedsIn300() {
    QuayCranes x = Check.planned(QUAY, "0 0;1 1");
    for (int n = -3; n <= 304; n++) {
      boolean fine = n >= 0 && n <= 300;
      Check.eq(16, "deeds(1, " + n + ", 4)", x.deeds(1, n, 4), fine ? Math.max(0, Math.min(n - 6, 3)) : -1);
    }
    for (int n : FAR_OFF) Check.eq(16, "deeds(0, " + n + ", 0)", x.deeds(0, n, 0), -1);
    int[] due = {291, 1, 0, 5, 3};
    for (int d = -2; d < 8; d++) Check.eq(16, "deeds(1, 300, " + d + ")", x.deeds(1, 300, d), d >= 0 && d < 5 ? due[d] : -1);
    for (int d = 0; d < 5; d++) Check.eq(16, "deeds(1, 0, " + d + ")", x.deeds(1, 0, d), 0);
    for (int d : FAR_OFF) Check.eq(16, "deeds(0, 300, " + d + ")", x.deeds(0, 300, d), -1);
    for (int many = 1; many <= 4; many++) {
      QuayCranes y = Check.quay("bays 9" + ";crane 0;crane 2;crane 4;crane 8".substring(0, 8 * many));
      for (int c = -2; c < 7; c++) Check.eq(16, "deeds(" + c + ", 300, 0) of " + many, y.deeds(c, 300, 0), c >= 0 && c < many ? 300 : -1);
      for (int c : FAR_OFF) Check.eq(16, "deeds(" + c + ", 0, 0)", y.deeds(c, 0, 0), -1);
    }
  }

  /** "(0: it is). NONE: not in 300, no such one." */
  private static void doneByTasks() {
    for (int many = 0; many <= 8; many++) {
      QuayCranes x = Check.quay("bays 9;crane 0" + ";task at 0 takes 1".repeat(many));
      if (many > 0) Check.tape(x, "0 " + (many - 1)).plan();
      for (int t = -2; t < 11; t++) Check.eq(17, "doneBy(" + t + ") of " + many, x.doneBy(t), many > 0 && t == many - 1 ? 1 : -1);
      for (int t : FAR_OFF) Check.eq(17, "doneBy(" + t + ")", x.doneBy(t), -1);
      if (many > 0) x.go(1);
      if (many > 0) Check.eq(17, "doneBy: it is", x.doneBy(many - 1), 0);
      if (many > 0) Check.eq(17, "doneBy: it is, told no more", Check.tape(x, "").plan() + x.doneBy(many - 1), 0);
    }
  }

  /** "in the n MINUTES from now (0 to 300), as each ends and now .. NONE: one CRANE alone, no such n, no QUAY." */
  private static void nearestInSpan() {
    // crane 0 comes from 4 bays off to the gap in three minutes, then goes back
    QuayCranes x = Check.planned("bays 20;gap 2;crane 1;crane 6;task at 4 takes 1;task at 0 takes 1", "0 0 1");
    for (int n = -3; n <= 304; n++) Check.eq(26, "nearest(" + n + ")", x.nearest(n), n < 0 || n > 300 ? -1 : Math.max(0, 3 - n));
    for (int n : FAR_OFF) Check.eq(26, "nearest(" + n + ")", x.nearest(n), -1);
    // now counts: they go apart from the first minute on
    QuayCranes y = Check.planned("bays 30;gap 5;crane 9;crane 14;crane 24;task at 0 takes 1", "0 0");
    for (int n : new int[] {0, 1, 300}) Check.eq(26, "nearest(" + n + ")", y.nearest(n), 0);
    y.go(9);
    for (int n : new int[] {0, 1, 300}) Check.eq(26, "nearest(" + n + ")", y.nearest(n), 5);
    // the last two of four
    QuayCranes z = Check.quay("bays 30;crane 0;crane 9;crane 18;crane 20");
    Check.eq(26, "nearest(0): side by side", z.nearest(0), 1);
    Check.eq(26, "nearest(0): the widest", Check.quay("bays 30;crane 0;crane 29").nearest(0), 28);
    Check.eq(26, "nearest(0): the narrowest", Check.quay("bays 2;crane 0;crane 1").nearest(300), 0);
    // as each minute ends: far out, too
    QuayCranes far = Check.planned("bays 30;crane 0;crane 13" + far(1).replace("bays 30;crane 0", "").replace(";task at 0 takes 1", ";task at 12 takes 1"), "0 0 1 2 3 4 5 6 7");
    Check.eq(26, "nearest(299)", far.nearest(299), 1);
    Check.eq(26, "nearest(300)", far.nearest(300), 0);
  }

  private static void nearestOfOne() {
    for (int n : new int[] {-1, 0, 1, 300, 301}) {
      Check.eq(26, "nearest(" + n + ") of one", Check.quay("bays 9;crane 3").nearest(n), -1);
      Check.eq(26, "nearest(" + n + ") without a QUAY", new QuayCranes().nearest(n), -1);
    }
    QuayCranes x = Check.quay("bays 9;crane 3;crane 5");
    x.breaks(0, true);
    Check.eq(26, "nearest(0): broken ones count", x.nearest(0), 1);
  }

  /** "(0 to 300), as each ends and now: the greatest SWAY of a CRANE, as bits of a float. NONE: no such ones." */
  private static void swingsInSpan() {
    QuayCranes x = Check.planned("bays 9;crane 0;crane 5;task at 2 takes 1", "0 0");
    int[] due = {0, Float.floatToIntBits(1.5f), Float.floatToIntBits(2.625f)};
    for (int n = -3; n <= 304; n++) Check.eq(27, "swings(0, " + n + ")", x.swings(0, n), n < 0 || n > 300 ? -1 : due[Math.min(2, n)]);
    for (int n : FAR_OFF) Check.eq(27, "swings(0, " + n + ")", x.swings(0, n), -1);
    for (int c : new int[] {-1, 2, 3, 4, MIN, MAX}) Check.eq(27, "swings(" + c + ", 0)", x.swings(c, 0), -1);
    Check.eq(27, "swings(1, 300): it stands", x.swings(1, 300), 0);
    x.go(2);
    for (int n : new int[] {0, 1, 300}) Check.eq(27, "swings(0, " + n + "): now counts", x.swings(0, n), due[2]);
    x.go(1);
    Check.eq(27, "swings(0, 300): it was more", x.swings(0, 300), Float.floatToIntBits(1.3125f));
    // the last minute of 300 counts
    QuayCranes far = Check.planned("bays 30;crane 0" + far(1).replace("bays 30;crane 0", "").replace(";task at 0 takes 1", ";task at 29 takes 1"), "0 0 1 2 3 4 5 6 7");
    Check.eq(27, "swings(0, 299) is less", far.swings(0, 299) < far.swings(0, 300) ? 1 : 0, 1);
    float sway = 0f;
    for (int m = 0; m < 12; m++) sway = sway * 0.75f + 1.5f;
    // what was left of the ways ahead is too little to be seen
    Check.eq(27, "swings(0, 300)", far.swings(0, 300), Float.floatToIntBits(sway));
  }

  /** "in the n MINUTES from now (0 to 300): in how many nobody WORKS. NONE: no QUAY, no such n." */
  private static void idleInSpan() {
    QuayCranes x = Check.planned("bays 9;crane 1;crane 5;crane 7;task at 1 takes 2;task at 5 takes 4 after 0;task at 7 takes 1", "0 0;1 1;2 2");
    for (int n = -3; n <= 304; n++) Check.eq(28, "idle(" + n + ")", x.idle(n), n < 0 || n > 300 ? -1 : Math.max(0, n - 6));
    for (int n : FAR_OFF) Check.eq(28, "idle(" + n + ")", x.idle(n), -1);
    Check.eq(28, "idle(300) of nothing to do", Check.quay("bays 9;crane 1").idle(300), 300);
    // at first nobody works, then the last of four
    QuayCranes y = Check.planned("bays 9;crane 0;crane 2;crane 4;crane 7;task at 8 takes 2", "3 0");
    for (int n = 0; n <= 10; n++) Check.eq(28, "idle(" + n + ")", y.idle(n), n < 3 ? n : Math.max(2, n - 2));
    // and the first of four: a step, a minute to be calm, two of work
    QuayCranes z = Check.planned("bays 9;crane 0;crane 2;crane 4;crane 7;task at 1 takes 2", "0 0");
    for (int n = 0; n <= 10; n++) Check.eq(28, "idle(" + n + ")", z.idle(n), n < 3 ? n : Math.max(2, n - 2));
    QuayCranes far = Check.planned(far(13), "0 0 1 2 3 4 5 6 7");
    Check.eq(28, "idle(299)", far.idle(299), 78);
    Check.eq(28, "idle(300)", far.idle(300), 78);
  }

  private static void noQuay() {
    QuayCranes none = new QuayCranes();
    for (int k : new int[] {-1, 0, 1, 299, 300, 301}) {
      Check.eq(14, "where(0, " + k + ") without a QUAY", none.where(0, k), -1);
      Check.eq(15, "deed(0, " + k + ") without a QUAY", none.deed(0, k), -1);
      Check.eq(16, "deeds(0, " + k + ", 0) without a QUAY", none.deeds(0, k, 0), -1);
      Check.eq(17, "doneBy(" + k + ") without a QUAY", none.doneBy(k), -1);
      Check.eq(27, "swings(0, " + k + ") without a QUAY", none.swings(0, k), -1);
      Check.eq(28, "idle(" + k + ") without a QUAY", none.idle(k), -1);
    }
    Check.eq(13, "last() without a QUAY", none.last(), -1000000);
  }
}
