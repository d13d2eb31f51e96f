/** Promises 1 to 5, and the faults of PLANS and MOVES: the tape and what can be read from it. */
public final class Texts {
  private static final String QUAY = "bays 10;gap 2;crane 1;crane 5;task at 3 takes 2;task at 6 takes 3 after 0";

  public static void main(String[] args) {
    newObject();
    feed();
    end();
    faultOfQuay();
    faultOfPlan();
    faultOfMoves();
    quay();
    Check.ends("Texts");
  }

  private static void newObject() {
    QuayCranes x = new QuayCranes();
    Check.eq(1, "rule(0)", x.rule(0), -1000000);
    Check.eq(1, "last()", x.last(), -1000000);
    Check.eq(1, "count(0)", x.count(0), 0);
    Check.eq(1, "count(1)", x.count(1), 0);
    Check.eq(1, "status(0)", x.status(0), 0);
    Check.eq(1, "crane(0, 0)", Check.throwsNone(x, 0, 0), 1);
    Check.eq(1, "task(0, 0)", x.task(0, 0), -1);
    Check.eq(1, "undo()", x.undo(), -1);
    Check.eq(1, "back()", x.back(), -1);
  }

  private static void feed() {
    QuayCranes x = new QuayCranes();
    Check.eq(2, "feed of no byte", x.feed(0, 0, 0, 0, 0), 0);
    Check.eq(2, "feed of one", x.feed(0, 0, 0x00620000, 0, 0), 1);
    Check.eq(2, "feed, the highest first", x.feed(0x61007973, 0x20310030, 0, 0, 0), 7);
    Check.eq(2, "fault(0): bays 10 was fed", x.fault(0), 7);
    Check.eq(2, "feed of 20", x.feed(-1, -1, -1, -1, -1), 27);
    Check.eq(2, "fault(0) at byte 255", x.fault(0), 7);
    for (int k = 0; k < 18; k++) x.feed(-1, -1, -1, -1, -1);
    Check.eq(2, "count(0)", x.count(0), 387);
    Check.eq(2, "feed beyond 400", x.feed(-1, -1, -1, 0x01010000, 0), -1);
    Check.eq(2, "count(0): as it was", x.count(0), 387);
    Check.eq(2, "feed to 400", x.feed(-1, -1, -1, 0x00000100, 0), 400);
    Check.eq(2, "feed of no byte to 400", x.feed(0, 0, 0, 0, 0), 400);
    Check.eq(2, "feed of a byte to 400", x.feed(0, 0, 0, 0, 1), -1);
  }

  private static void end() {
    QuayCranes x = Check.tape(new QuayCranes(), "bays 10;crane 1");
    Check.eq(3, "end(16)", x.end(16) ? 1 : 0, 0);
    Check.eq(3, "end(-1)", x.end(-1) ? 1 : 0, 0);
    Check.eq(3, "end(min)", x.end(Integer.MIN_VALUE) ? 1 : 0, 0);
    Check.eq(3, "count(0)", x.count(0), 15);
    Check.eq(3, "end(15)", x.end(15) ? 1 : 0, 1);
    Check.eq(3, "fault(0)", x.fault(0), -1);
    Check.eq(3, "end(8)", x.end(8) ? 1 : 0, 1);
    Check.eq(3, "fault(0)", x.fault(0), 8);
    Check.eq(3, "end(0)", x.end(0) ? 1 : 0, 1);
    Check.eq(3, "count(0)", x.count(0), 0);
    Check.eq(3, "end(1)", x.end(1) ? 1 : 0, 0);
  }

  private static void bad(String text, int at) {
    Check.eq(4, "fault(0) of " + text, Check.fault(text), at);
  }

  private static void faultOfQuay() {
    bad(QUAY, -1);
    String close = "  bays10 ;gap  2;crane 1lift 5 ; crane 05 lift 99;task at 3takes 2heavy 7after";
    bad(close + " 0", close.length() + 1);
    bad(close, close.length());
    bad("  bays10 ;gap  2;crane 1lift 5 ; crane 05 lift 99  ", -1);
    bad("", 0);
    bad("   ", 3);
    bad("bays", 4);
    bad("bays ", 5);
    bad("bay 10", 0);
    bad("baysx 10", 0);
    bad("baysz 10", 0);
    bad("baysa 10", 0);
    bad("bays{10", 4);
    bad("bays`10", 4);
    bad("bays 1/", 5);
    bad("bays 10:", 7);
    bad(" Bays 10", 1);
    bad("bays 1;crane 0", 5);
    bad("bays 31;crane 0", 5);
    bad("bays 2;crane 1", -1);
    bad("bays 30;crane 29", -1);
    bad("bays 010;crane 1", 5);
    bad("bays 10 crane 1", 8);
    bad("bays 10;;crane 1", 8);
    bad("bays 10;gap 0;crane 1", 12);
    bad("bays 10;gap 6;crane 1", 12);
    bad("bays 10;gap 1;gap 2;crane 1", 14);
    bad("bays 10;gap 5 ;crane 1", -1);
    bad("bays 10;gap 1", 13);
    bad("bays 10;gap 1;task at 1 takes 1", 14);
    bad("bays 10;task at 1 takes 1", 8);
    bad("bays 10;crane 10", 14);
    bad("bays 10;crane 9", -1);
    bad("bays 10;crane -1", 14);
    bad("bays 10;crane 1;crane 1", 22);
    bad("bays 10;gap 3;crane 1;crane 3", 28);
    bad("bays 10;gap 3;crane 1;crane 4", -1);
    bad("bays 10;crane 1 lift 0", 21);
    bad("bays 10;crane 1 lift 100", 21);
    bad("bays 10;crane 1 lift 1 lift 1", 23);
    bad("bays 10;crane 1 lift", 20);
    bad("bays 10;crane 0;crane 1;crane 2;crane 3", -1);
    bad("bays 10;crane 0;crane 1;crane 2;crane 3;crane 4", 40);
    bad("bays 10;crane 0;crane 1;crane 2;crane 3;", 40);
    bad("bays 10;crane 0;gap 1", 16);
    bad("bays 10;crane 0;task 1", 21);
    bad("bays 10;crane 0;task at 10 takes 1", 24);
    bad("bays 10;crane 0;task at 1", 25);
    bad("bays 10;crane 0;task at 1 takes 0", 32);
    bad("bays 10;crane 0;task at 1 takes 31", 32);
    bad("bays 10;crane 0;task at 1 takes 30", -1);
    bad("bays 10;crane 0;task at 1 takes 1 heavy 0", 40);
    bad("bays 10;crane 0;task at 1 takes 1 heavy 99", -1);
    bad("bays 10;crane 0;task at 1 takes 1 heavy 1 heavy 1", 42);
    bad("bays 10;crane 0;task at 1 takes 1 after 0", 40);
    bad("bays 10;crane 0;task at 1 takes 1;task at 1 takes 1 after 1", 58);
    bad("bays 10;crane 0;task at 1 takes 1;task at 1 takes 1 after 0 after 0", -1);
    bad("bays 10;crane 0;task at 1 takes 1;task at 1 takes 1 after 0 heavy 1", 60);
    bad("bays 10;crane 0;task at 1 takes 1;crane 2", 34);
    bad("bays 10;crane 0;task at 1 takes 1;", 34);
    bad("bays 10;crane 0;task at 1 takes 1 \t", 34);
    StringBuilder eight = new StringBuilder("bays 2;crane 0");
    for (int t = 0; t < 8; t++) eight.append(";task at 1 takes 1");
    bad(eight.toString(), -1);
    bad(eight + ";task at 1 takes 1", eight.length() + 1);
    bad(eight + "; ", eight.length() + 2);
    QuayCranes x = Check.tape(new QuayCranes(), "0 0");
    Check.eq(4, "fault(1) without a QUAY", x.fault(1), -2);
    Check.eq(4, "fault(2) without a QUAY", x.fault(2), -2);
    Check.eq(4, "fault(3)", x.fault(3), -2);
    Check.eq(4, "fault(-1)", Check.quay(QUAY).fault(-1), -2);
    Check.eq(4, "fault(3)", Check.quay(QUAY).fault(3), -2);
    Check.eq(4, "the tape stays", Check.tape(x, QUAY).fault(0) + x.count(0), QUAY.length() - 1);
  }

  private static void badPlan(QuayCranes x, String text, int at) {
    Check.eq(4, "fault(1) of " + text, Check.fault(x, 1, text), at);
  }

  private static void faultOfPlan() {
    QuayCranes x = Check.quay("bays 9;crane 1 lift 5;crane 5 lift 6;task at 3 takes 2 heavy 6;task at 1 takes 1 heavy 5;task at 4 takes 1");
    badPlan(x, "", -1);
    badPlan(x, "  ", -1);
    badPlan(x, "0", -1);
    badPlan(x, "1 0 2 1;0", -1);
    badPlan(x, " 00 01  02;01 ", -1);
    badPlan(x, ";", 0);
    badPlan(x, "0;", 2);
    badPlan(x, "0; ", 3);
    badPlan(x, "2", 0);
    badPlan(x, "001", 0);
    badPlan(x, "0 1;0 2", 4);
    badPlan(x, "0 1;1 2;0", 8);
    badPlan(x, "0 1;1 2;", 8);
    badPlan(x, "0 1 1", 4);
    badPlan(x, "0 1;1 1", 6);
    badPlan(x, "0 3", 2);
    badPlan(x, "0 0", 2);
    badPlan(x, "1 0;0 1", -1);
    badPlan(x, "0 task", 2);
    badPlan(x, "a", 0);
    badPlan(x, "0 1,2", 3);
    badPlan(x, "0 001", 2);
    x.breaks(0, true);
    badPlan(x, "0 1", -1);
    x.breaks(0, false);
    Check.tape(x, "0 1").plan();
    x.go(1);
    badPlan(x, "0 1", 2);
    badPlan(x, "0 2", -1);
    badPlan(Check.quay("bays 9;crane 0;crane 1;crane 2;crane 3"), "3;2;1;0;", 8);
    badPlan(Check.quay("bays 9;crane 0;crane 1;crane 2;crane 3"), "3;2;1;0;0", 8);
  }

  private static void badMoves(QuayCranes x, String text, int at) {
    Check.eq(4, "fault(2) of " + text, Check.fault(x, 2, text), at);
  }

  private static void faultOfMoves() {
    QuayCranes x = Check.quay("bays 9;crane 1;crane 5");
    badMoves(x, "", 0);
    badMoves(x, " ", 1);
    badMoves(x, "1 5", -1);
    badMoves(x, "99 0 ; 00 99", -1);
    badMoves(x, "1", 1);
    badMoves(x, "1;5", 1);
    badMoves(x, "1 5 6", 4);
    badMoves(x, "1 5;", 4);
    badMoves(x, "1 5;;", 4);
    badMoves(x, "1 100", 2);
    badMoves(x, "1 a", 2);
    QuayCranes one = Check.quay("bays 9;crane 1");
    StringBuilder lines = new StringBuilder("1");
    for (int k = 1; k < 40; k++) lines.append(";1");
    badMoves(one, lines.toString(), -1);
    badMoves(one, lines + ";1", 80);
    badMoves(one, lines + "; 1;1", 81);
    badMoves(one, lines + ";", 80);
  }

  private static void quay() {
    QuayCranes x = Check.tape(new QuayCranes(), "bays 10;crane 1;");
    Check.eq(5, "quay() with a fault", x.quay(), -1);
    Check.eq(5, "the tape stays", x.count(0), 16);
    Check.eq(5, "no QUAY", x.rule(0), -1000000);
    Check.eq(5, "quay()", Check.tape(x, QUAY).quay(), 2);
    Check.eq(5, "the tape is empty", x.count(0), 0);
    Check.tape(x, "0 0;1 1").plan();
    x.go(7);
    x.breaks(1, true);
    x.image();
    x.plan();
    String was = Check.state(x);
    Check.eq(5, "quay() of an empty tape", x.quay(), -1);
    Check.row(5, "all stays", Check.state(x), was);
    Check.eq(5, "acts stay", x.count(1), 4);
    Check.eq(5, "the image stays", x.back(), 7);
    x.go(1);
    x.go(0);
    Check.eq(5, "quay()", Check.tape(x, "bays 3;crane 2").quay(), 0);
    Check.eq(5, "no acts", x.count(1), 0);
    Check.eq(5, "no image", x.back(), -1);
    Check.eq(5, "minute 0", x.rule(4), 0);
    Check.eq(5, "none is broken", x.rule(6), 0);
    Check.eq(5, "no plan", x.rule(7), 0);
    Check.eq(5, "gap 1 without", x.rule(1), 1);
    Check.eq(5, "lift 99 without", x.crane(0, 1), 99);
    Check.eq(5, "no sway", x.crane(0, 5), 0);
    Check.eq(5, "the same again", Check.tape(x, QUAY).quay(), 2);
    Check.eq(5, "nothing is done", x.rule(5) + x.task(0, 4), 0);
    Check.eq(5, "heavy 1 without", x.task(0, 2), 1);
    Check.eq(5, "crane 0 stands anew", x.crane(0, 0), 1);
  }
}
