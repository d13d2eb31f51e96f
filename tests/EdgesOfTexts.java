import java.util.ArrayList;
import java.util.List;

/** Section 1 of the Terms, promises 1 to 5: each sentence that names a boundary of the tape and its texts, by itself. */
public final class EdgesOfTexts {
  private static final int MIN = Integer.MIN_VALUE;
  private static final int MAX = Integer.MAX_VALUE;
  private static final String TASK = ";task at 0 takes 1";

  public static void main(String[] args) {
    noQuay();
    feedsTwentyBytes();
    feedsFourHundredAtMost();
    endWithin();
    bays2To30();
    bays0On();
    gap1To5();
    lift1To99();
    cranes1To4();
    cranesAtLeastGapApart();
    fullQuays();
    minutes1To30();
    heavy1To99();
    lesserTasks();
    afterAnyTimes();
    tasks8AtMost();
    wordsInTheirOrder();
    wordsAsLongAsTheyCan();
    numbersOf1To2Digits();
    blanksAheadOfAndBehindAll();
    anotherByte();
    endsTooEarly();
    semicolonsBetween();
    planLines();
    planCranes();
    planTasks();
    planTasksOnce();
    planLift();
    planDone();
    planDigitsAndBytes();
    fullPlan();
    moves1To40Lines();
    movesOfAllCranes();
    movesNumbers();
    faultOfWhat();
    quayRefused();
    quayAnew();
    Check.ends("EdgesOfTexts");
  }

  private static void fault(String text, int at) {
    Check.eq(4, "fault(0) of " + text, Check.fault(text), at);
  }

  private static void good(String text) {
    fault(text, -1);
  }

  private static void bad(String ahead, String part) {
    fault(ahead + part, ahead.length());
  }

  private static String times(String text, int n) {
    return text.repeat(n);
  }

  /** "QuayCranes(): No QUAY." */
  private static void noQuay() {
    QuayCranes x = new QuayCranes();
    long[] none = {x.image(), x.back(), x.undo(), x.task(0, 0), x.where(0, 0), x.deed(0, 0), x.deeds(0, 0, 0), x.doneBy(0),
        x.written(-1), x.written(0), x.nearest(0), x.swings(0, 0), x.idle(0), x.most(0), x.most(2), x.go(1), x.breaks(0, true),
        x.breaks(0, false), x.more(0, 1, 1, -1), x.follow(0), x.quay()};
    for (int k = 0; k < none.length; k++) Check.eq(1, "NONE of a new object, call " + k, none[k], -1);
    long[] hidden = {x.rule(0), x.rule(3), x.rule(4), x.last(), x.tried(), x.moves(), x.best(-1), x.best(0), x.easy(-1), x.zones(-1), x.better(0),
        x.dearest(0), x.bound(0), x.without(0), x.slack(0), x.mean(0), x.plan()};
    for (int k = 0; k < hidden.length; k++) Check.eq(1, "HIDDEN of a new object, call " + k, hidden[k], -1000000);
    Check.eq(1, "fault(1)", x.fault(1), -2);
    Check.eq(1, "fault(2)", x.fault(2), -2);
    Check.eq(1, "crane(0, 0) throws", Check.throwsNone(x, 0, 0), 1);
    Check.eq(1, "count(0)", x.count(0), 0);
    Check.eq(1, "count(1)", x.count(1), 0);
    Check.eq(1, "status(0): go, breaks twice, more, follow, plan", x.status(0), 6);
    for (int k = 1; k < 4; k++) Check.eq(1, "status(" + k + ")", x.status(k), 0);
    for (int k = 0; k < 4; k++) Check.eq(1, "status(" + k + ") at first", new QuayCranes().status(k), 0);
  }

  /** "Twenty bytes more come to the TAPE (of each number the highest first; bytes of 0 are left out): how many it has." */
  private static void feedsTwentyBytes() {
    for (int k = 0; k < 20; k++) {
      int[] f = new int[5];
      f[k / 4] = 'x' << 24 - k % 4 * 8;
      QuayCranes x = new QuayCranes();
      Check.eq(2, "feed of one byte at " + k, x.feed(f[0], f[1], f[2], f[3], f[4]), 1);
      f[k / 4] = 255 << 24 - k % 4 * 8;
      Check.eq(2, "feed of a byte of 255 at " + k, x.feed(f[0], f[1], f[2], f[3], f[4]), 2);
    }
    String text = "bays 3;crane 1;" + "task at 2";
    for (int k = 0; k < 20; k++) {
      // the byte at k is another: the fault tells where it came to stand
      String odd = "                    ".substring(0, k) + "!" + "                   ".substring(k);
      int[] f = Check.packed(odd, 0);
      QuayCranes x = new QuayCranes();
      Check.eq(2, "feed of 20", x.feed(f[0], f[1], f[2], f[3], f[4]), 20);
      Check.eq(2, "its byte " + k, x.fault(0), k);
    }
    QuayCranes zeros = new QuayCranes();
    Check.eq(2, "feed of no byte", zeros.feed(0, 0, 0, 0, 0), 0);
    int many = 0;
    for (char one : text.toCharArray()) {
      many++;
      Check.eq(2, "feed of a byte among those of 0", zeros.feed(0, 0, many % 2 == 0 ? one : 0, many % 2 == 0 ? 0 : one << 16, 0), many);
    }
    Check.eq(2, "all that was fed stands side by side", zeros.fault(0), text.length());
    Check.eq(2, "feed goes on behind it", zeros.feed(' ' << 24 | 't' << 16 | 'a' << 8 | 'k', 'e' << 24 | 's' << 16 | ' ' << 8 | '1', 0, 0, 0), many + 8);
    Check.eq(2, "fault(0)", zeros.fault(0), -1);
  }

  /** "NONE: more than 400." */
  private static void feedsFourHundredAtMost() {
    for (int have : new int[] {379, 380, 381, 399, 400}) {
      QuayCranes x = Check.tape(new QuayCranes(), times(" ", have));
      Check.eq(2, "count(0)", x.count(0), have);
      Check.eq(2, "feed of 20 to " + have, x.feed(0x20202020, 0x20202020, 0x20202020, 0x20202020, 0x20202021), have > 380 ? -1 : have + 20);
      Check.eq(2, "count(0): all of it or nothing", x.count(0), have > 380 ? have : have + 20);
      Check.eq(2, "fault(0): what stands there", x.fault(0), have > 380 ? have : have + 19);
    }
    QuayCranes x = Check.tape(new QuayCranes(), times(" ", 399));
    Check.eq(2, "feed of two to 399", x.feed(0, 0x20000000, 0, 0, 0x20), -1);
    Check.eq(2, "feed of one to 399", x.feed(0, 0, 0, 0, 0x20), 400);
    Check.eq(2, "feed of none to 400", x.feed(0, 0, 0, 0, 0), 400);
    for (int k = 0; k < 5; k++) {
      Check.eq(2, "feed of one to 400", x.feed(k == 0 ? 1 : 0, k == 1 ? 1 : 0, k == 2 ? 1 : 0, k == 3 ? 1 : 0, k == 4 ? 1 : 0), -1);
    }
    Check.eq(2, "end(399)", x.end(399) ? 1 : 0, 1);
    Check.eq(2, "feed of one to 399 again", x.feed(0, 0, 0, 0, 0x20), 400);
    String full = "bays 2;crane 0";
    Check.eq(2, "a quay of 400 bytes", Check.tape(new QuayCranes(), full + times(" ", 400 - full.length())).quay(), 0);
  }

  /** "The TAPE has its first n bytes alone. False: n." */
  private static void endWithin() {
    String text = "bays 10;crane 1";
    for (int n = -2; n <= 18; n++) {
      QuayCranes x = Check.tape(new QuayCranes(), text);
      boolean fine = n >= 0 && n <= 15;
      Check.eq(3, "end(" + n + ")", x.end(n) ? 1 : 0, fine ? 1 : 0);
      Check.eq(3, "count(0) behind end(" + n + ")", x.count(0), fine ? n : 15);
      Check.eq(3, "fault(0) behind end(" + n + ")", x.fault(0), fine ? Check.fault(text.substring(0, n)) : -1);
    }
    QuayCranes x = Check.tape(new QuayCranes(), text);
    for (int n : new int[] {400, 401, MIN, MAX}) Check.eq(3, "end(" + n + ")", x.end(n) ? 1 : 0, 0);
    Check.eq(3, "count(0)", x.count(0), 15);
    Check.eq(3, "end(14)", x.end(14) ? 1 : 0, 1);
    Check.eq(3, "end(15): it has no more", x.end(15) ? 1 : 0, 0);
    Check.eq(3, "fault(0): the last byte is gone", x.fault(0), 14);
    QuayCranes empty = new QuayCranes();
    Check.eq(3, "end(0) of an empty tape", empty.end(0) ? 1 : 0, 1);
    Check.eq(3, "end(1) of an empty tape", empty.end(1) ? 1 : 0, 0);
    QuayCranes full = Check.tape(empty, times(" ", 400));
    Check.eq(3, "end(401) of a full tape", full.end(401) ? 1 : 0, 0);
    Check.eq(3, "end(400) of a full tape", full.end(400) ? 1 : 0, 1);
    Check.eq(3, "count(0)", full.count(0), 400);
  }

  /** "bays N (2 to 30" */
  private static void bays2To30() {
    for (int n = 0; n < 100; n++) {
      fault("bays " + n + ";crane 0", n >= 2 && n <= 30 ? -1 : 5);
      if (n >= 2 && n <= 30) Check.eq(5, "rule(0)", Check.quay("bays " + n + ";crane 0").rule(0), n);
    }
    bad("bays ", "00;crane 0");
    bad("bays ", "01;crane 0");
    good("bays 02;crane 0");
    good("bays 09;crane 0");
  }

  /** "BAYS 0 on", "a BAY that isn't there" */
  private static void bays0On() {
    for (int bays : new int[] {2, 3, 9, 10, 11, 29, 30}) {
      for (int bay = 0; bay < 100; bay++) {
        String crane = "bays " + bays + ";crane ";
        fault(crane + bay, bay < bays ? -1 : crane.length());
        String task = "bays " + bays + ";crane 0;task at ";
        fault(task + bay + " takes 1", bay < bays ? -1 : task.length());
      }
      QuayCranes x = Check.quay("bays " + bays + ";crane 0;task at " + (bays - 1) + " takes 1;task at 0 takes 1");
      Check.eq(5, "crane(0, 0)", x.crane(0, 0), 0);
      Check.eq(5, "task(0, 0)", x.task(0, 0), bays - 1);
      Check.eq(5, "task(1, 0)", x.task(1, 0), 0);
      Check.eq(5, "crane(0, 0)", Check.quay("bays " + bays + ";crane " + (bays - 1)).crane(0, 0), bays - 1);
    }
  }

  /** "perhaps gap N (1 to 5; 1 without)" */
  private static void gap1To5() {
    for (int n = 0; n < 100; n++) {
      fault("bays 9;gap " + n + ";crane 0", n >= 1 && n <= 5 ? -1 : 11);
      if (n >= 1 && n <= 5) Check.eq(5, "rule(1)", Check.quay("bays 9;gap " + n + ";crane 0").rule(1), n);
    }
    Check.eq(5, "rule(1) without", Check.quay("bays 9;crane 0").rule(1), 1);
    // an object keeps nothing of a gap ahead
    QuayCranes x = Check.quay("bays 9;gap 4;crane 0");
    Check.tape(x, "bays 9;crane 0;crane 1").quay();
    Check.eq(5, "rule(1) without, anew", x.rule(1), 1);
    good("bays 9;crane 0;crane 1");
    bad("bays 9;crane 1;crane ", "1");
  }

  /** "LIFT 1 to 99; 99 without" */
  private static void lift1To99() {
    for (int n = 0; n < 100; n++) {
      fault("bays 9;crane 0 lift " + n, n >= 1 ? -1 : 20);
      if (n >= 1) Check.eq(5, "crane(0, 1)", Check.quay("bays 9;crane 0 lift " + n).crane(0, 1), n);
    }
    bad("bays 9;crane 0 lift ", "100");
    Check.eq(5, "crane(0, 1) without", Check.quay("bays 9;crane 0").crane(0, 1), 99);
    QuayCranes x = Check.quay("bays 9;crane 0 lift 7;crane 1;crane 2 lift 1");
    Check.eq(5, "crane(1, 1) without, behind another", x.crane(1, 1), 99);
    Check.eq(5, "crane(2, 1)", x.crane(2, 1), 1);
    good("bays 9;crane 0 lift 1;task at 0 takes 1 heavy 99");
  }

  /** "1 to 4 CRANES, 0 on", "a fifth crane ... at its word" */
  private static void cranes1To4() {
    fault("bays 9", 6);
    fault("bays 9;", 7);
    fault("bays 9;gap 1;", 13);
    bad("bays 9;", "task at 0 takes 1");
    bad("bays 9;gap 1;", "task at 0 takes 1");
    String text = "bays 9";
    for (int n = 1; n <= 4; n++) {
      text += ";crane " + (n - 1);
      good(text);
      good(text + TASK);
      QuayCranes x = Check.quay(text);
      Check.eq(5, "rule(2)", x.rule(2), n);
      Check.eq(5, "crane(" + (n - 1) + ", 0)", x.crane(n - 1, 0), n - 1);
      Check.eq(5, "crane(" + n + ", 0) throws", Check.throwsNone(x, n, 0), 1);
    }
    bad(text + ";", "crane 4");
    bad(text + ";", "crane 9");
    bad(text + ";", "crane");
    bad(text + ";  ", "crane 100");
    bad(text + ";", "cranes 4");
    fault(text + ";", text.length() + 1);
  }

  /** "each at least GAP above the one ahead of it", "a NUMBER ... of a CRANE too near" */
  private static void cranesAtLeastGapApart() {
    for (int gap = 1; gap <= 5; gap++) {
      String ahead = "bays 30;gap " + gap + ";crane 9;crane ";
      for (int bay = 0; bay < 30; bay++) fault(ahead + bay, bay >= 9 + gap ? -1 : ahead.length());
      fault(ahead + 30, ahead.length());
      String third = ahead + 16 + ";crane ";
      for (int bay = 0; bay < 30; bay++) fault(third + bay, bay >= 16 + gap ? -1 : third.length());
      String fourth = third + 23 + ";crane ";
      for (int bay = 0; bay < 30; bay++) fault(fourth + bay, bay >= 23 + gap ? -1 : fourth.length());
      String low = "bays 30;gap " + gap + ";crane 0;crane ";
      bad(low, "" + (gap - 1));
      good(low + gap);
    }
  }

  /** Four cranes side by side from the first bay to the last, and with a bay less. */
  private static void fullQuays() {
    for (int gap = 1; gap <= 5; gap++) {
      String cranes = ";gap " + gap + ";crane 0;crane " + gap + ";crane " + 2 * gap + ";crane ";
      good("bays " + (3 * gap + 1) + cranes + 3 * gap);
      bad("bays " + 3 * gap + cranes, "" + 3 * gap);
      QuayCranes x = Check.quay("bays " + (3 * gap + 1) + cranes + 3 * gap + ";task at 0 takes 1");
      Check.eq(26, "nearest(300)", x.nearest(300), 0);
      // who stands at the end can't be pushed on
      Check.tape(x, "1 0").plan();
      Check.eq(15, "deed(1, 0)", x.deed(1, 0), 3);
    }
    good("bays 2;crane 0;crane 1");
    bad("bays 2;gap 2;crane 0;crane ", "1");
  }

  /** "MINUTES 1 to 30" */
  private static void minutes1To30() {
    for (int n = 0; n < 100; n++) {
      fault("bays 9;crane 0;task at 0 takes " + n, n >= 1 && n <= 30 ? -1 : 31);
      if (n >= 1 && n <= 30) Check.eq(5, "task(0, 1)", Check.quay("bays 9;crane 0;task at 0 takes " + n).task(0, 1), n);
    }
  }

  /** "HEAVY 1 to 99, 1 without" */
  private static void heavy1To99() {
    for (int n = 0; n < 100; n++) {
      fault("bays 9;crane 0;task at 0 takes 1 heavy " + n, n >= 1 ? -1 : 39);
      if (n >= 1) Check.eq(5, "task(0, 2)", Check.quay("bays 9;crane 0;task at 0 takes 1 heavy " + n).task(0, 2), n);
    }
    bad("bays 9;crane 0;task at 0 takes 1 heavy ", "100");
    QuayCranes x = Check.quay("bays 9;crane 0;task at 0 takes 1 heavy 7" + TASK);
    Check.eq(5, "task(1, 2) without, behind another", x.task(1, 2), 1);
  }

  /** "{ after N } (... a lesser TASK", "of a TASK not lesser" */
  private static void lesserTasks() {
    for (int task = 0; task < 8; task++) {
      String ahead = "bays 9;crane 0" + times(TASK, task + 1) + " after ";
      for (int n = 0; n < 12; n++) fault(ahead + n, n < task ? -1 : ahead.length());
      bad(ahead, "99");
      if (task > 0) Check.eq(5, "task(.., 3)", Check.quay(ahead + (task - 1)).task(task, 3), 1 << task - 1);
      if (task > 0) Check.eq(5, "task(.., 3)", Check.quay(ahead + 0).task(task, 3), 1);
      // the second one, too
      if (task > 0) bad(ahead + "0 after ", "" + task);
    }
  }

  /** "{ after N }": none, one, as many as there are, one again and again */
  private static void afterAnyTimes() {
    String seven = "bays 2;crane 0" + times(TASK, 8);
    Check.eq(5, "task(7, 3) of none", Check.quay(seven).task(7, 3), 0);
    Check.eq(5, "task(7, 3) of all", Check.quay(seven + " after 6 after 5 after 4 after 3 after 2 after 1 after 0").task(7, 3), 127);
    Check.eq(5, "task(7, 3) of one again and again", Check.quay(seven + times(" after 6", 20)).task(7, 3), 64);
    String full = seven + times("after 0", (400 - seven.length()) / 7);
    Check.eq(5, "task(7, 3) of a full tape", Check.quay(full).task(7, 3), 1);
    QuayCranes x = Check.quay(seven + " after 6");
    Check.eq(5, "task(6, 3)", x.task(6, 3), 0);
  }

  /** "8 at most, 0 on", "a ninth task at its word" */
  private static void tasks8AtMost() {
    String text = "bays 2;crane 0";
    for (int n = 0; n <= 8; n++) {
      Check.eq(5, "quay() of " + n, Check.tape(new QuayCranes(), text + times(TASK, n)).quay(), n);
      Check.eq(5, "rule(3)", Check.quay(text + times(TASK, n)).rule(3), n);
      fault(text + times(TASK, n) + ";", text.length() + n * TASK.length() + 1);
    }
    text += times(TASK, 8) + ";";
    bad(text, "task at 0 takes 1");
    bad(text, "task");
    bad(text, "task at 9");
    bad(text + " ", "tasks");
    bad(text, "crane 1");
    QuayCranes x = Check.quay("bays 2;crane 0;task at 1 takes 3" + times(TASK, 7));
    Check.eq(5, "task(0, 0): 0 on", x.task(0, 0), 1);
    Check.eq(5, "task(7, 0)", x.task(7, 0), 0);
    Check.eq(5, "task(8, 0)", x.task(8, 0), -1);
  }

  /** "where the first part begins that can't stand there: a word" */
  private static void wordsInTheirOrder() {
    bad("", "crane 0");
    bad("", "gap 1;bays 9;crane 0");
    bad("bays 9;", "bays 9;crane 0");
    bad("bays 9 ", "gap 1;crane 0");
    bad("bays 9;gap 1;", "gap 1;crane 0");
    bad("bays 9;crane 0;", "gap 1");
    bad("bays 9;crane 0;", "bays 9");
    bad("bays 9;crane 0;", "lift 9");
    bad("bays 9;crane 0 lift 9 ", "lift 9");
    bad("bays 9;crane 0 ", "heavy 9");
    bad("bays 9;crane 0" + TASK + ";", "crane 1");
    bad("bays 9;crane 0;task ", "takes 1 at 0");
    bad("bays 9;crane 0;", "at 0 takes 1");
    bad("bays 9;crane 0;task at 0 ", "heavy 1 takes 1");
    bad("bays 9;crane 0;task at 0 takes 1 ", "lift 9");
    bad("bays 9;crane 0;task at 0 takes 1 ", "takes 1");
    bad("bays 9;crane 0;task at 0 takes 1 heavy 1 ", "heavy 1");
    bad("bays 9;crane 0" + TASK + TASK + " after 0 ", "heavy 1");
    good("bays 9;crane 0" + TASK + TASK + " heavy 1 after 0");
    // a word where a number is due, a number where a word is due
    bad("bays ", "nine;crane 0");
    bad("bays 9;crane ", "crane 0");
    bad("bays 9;", "9");
    bad("bays 9;crane 0;task ", "0 takes 1");
    bad("bays 9;crane 0;task at 0 ", "1");
    bad("bays 9;crane 0 ", "1");
    bad("bays 9;crane 0 lift 1 ", "1");
    // all that stands behind the first one doesn't matter
    bad("bays ", "1;crane 77;;A");
  }

  /** "Words (small letters) go as long as they can" */
  private static void wordsAsLongAsTheyCan() {
    String[] words = {"bays", "gap", "crane", "lift", "task", "at", "takes", "heavy", "after"};
    String text = "bays 9;gap 1;crane 0 lift 9" + TASK + ";task at 1 takes 2 heavy 3 after 0";
    good(text);
    for (String word : words) {
      int at = text.lastIndexOf(word);
      String ahead = text.substring(0, at);
      String behind = text.substring(at + word.length());
      good(ahead + word + behind.substring(word.equals("task") ? 0 : 1));
      for (char more : new char[] {'a', 'm', 's', 'z'}) {
        bad(ahead, word + more + behind);
        bad(ahead, more + word + behind);
      }
      bad(ahead, word.substring(1) + behind);
      // each letter of it counts
      for (int k = 0; k < word.length(); k++) {
        char other = (char) (word.charAt(k) == 'z' ? 'a' : word.charAt(k) + 1);
        bad(ahead, word.substring(0, k) + other + word.substring(k + 1) + behind);
      }
      bad(ahead, word.substring(0, word.length() - 1) + behind);
      bad(ahead, word.substring(0, 1) + " " + word.substring(1) + behind);
      bad(ahead, word.substring(0, 1).toUpperCase() + word.substring(1) + behind);
      bad(ahead, word.substring(0, word.length() - 1) + word.substring(word.length() - 1).toUpperCase() + behind);
      // the bytes just beside the small letters end a word
      for (char beside : new char[] {'`', '{', '@', '['}) fault(ahead + word + beside + behind, at + word.length());
      bad(ahead, "`" + word + behind);
      bad(ahead, "{" + word + behind);
    }
    bad("bays 9;crane 0;", "taskat 0 takes 1");
    good("bays9;gap1;crane0lift9;task at0takes1;task at1takes2heavy3after0after0");
  }

  /** "NUMBERS 1 to 2 digits", "a NUMBER (of more digits" */
  private static void numbersOf1To2Digits() {
    String[] parts = {"bays ", "9", ";gap ", "1", ";crane ", "0", " lift ", "9;task at 0 takes 1", ";task at ", "1", " takes ", "2", " heavy ", "3", " after ", "0"};
    for (int k = 1; k < parts.length; k += 2) {
      StringBuilder ahead = new StringBuilder();
      StringBuilder behind = new StringBuilder();
      for (int j = 0; j < k; j++) ahead.append(parts[j]);
      for (int j = k; j < parts.length; j++) behind.append(parts[j]);
      good("" + ahead + behind);
      good(ahead + "0" + behind);
      bad("" + ahead, "00" + behind);
      bad("" + ahead, "000" + behind);
      bad("" + ahead, times("0", 40) + behind);
      bad("" + ahead, "42949672960" + behind);
      bad("" + ahead, "4294967297" + behind);
      bad("" + ahead, "100" + behind);
      bad("" + ahead, "-" + behind);
      bad("" + ahead, "+" + behind);
      bad("" + ahead, "/" + behind);
      bad("" + ahead, ":" + behind);
    }
    bad("bays 9", ".0;crane 0");
    bad("bays 9 ", "0;crane 0");
  }

  private static final String[] PARTS = {"bays", "10", ";", "gap", "2", ";", "crane", "1", ";", "crane", "5", "lift", "9", ";", "task", "at", "3", "takes", "2",
      "heavy", "7", ";", "task", "at", "6", "takes", "3", "heavy", "1", "after", "0", "after", "0"};

  private static String joined(int from, int to, String between) {
    StringBuilder sb = new StringBuilder();
    for (int k = from; k < to; k++) sb.append(PARTS[k]).append(between);
    return sb.toString();
  }

  /** "blanks (32) may stand ahead of and behind all" */
  private static void blanksAheadOfAndBehindAll() {
    good(joined(0, PARTS.length, " "));
    good(" " + joined(0, PARTS.length, " "));
    good("     " + joined(0, PARTS.length, "     "));
    for (int k = 0; k <= PARTS.length; k++) {
      good(joined(0, k, " ") + times(" ", 30) + joined(k, PARTS.length, " "));
      for (int one : new int[] {9, 10, 11, 12, 13, 31, 33, 127, 128, 160, 255}) {
        String ahead = joined(0, k, " ");
        fault(ahead + (char) one + " " + joined(k, PARTS.length, " "), ahead.length());
      }
    }
    // within a word or a number they part it
    bad("", "ba ys 10;crane 0");
    bad("bays 10;crane 0;task at 1 takes ", "0 1");
    bad("bays 10 ", "0;crane 0");
  }

  /** "another byte": each of them, between any two parts */
  private static void anotherByte() {
    for (int k = 0; k <= PARTS.length; k++) {
      String ahead = joined(0, k, " ");
      String behind = joined(k, PARTS.length, " ");
      boolean isNumberDue = k < PARTS.length && Character.isDigit(PARTS[k].charAt(0));
      for (int one = 1; one < 256; one++) {
        boolean isDigit = one >= '0' && one <= '9';
        if (one != ' ' && one != ';' && !(isDigit && isNumberDue)) fault(ahead + (char) one + " " + behind, ahead.length());
      }
    }
    // right behind a number and a word, with no blank
    for (int one = 1; one < 256; one++) {
      boolean isLetter = one >= 'a' && one <= 'z';
      boolean isDigit = one >= '0' && one <= '9';
      if (!isDigit && one != ' ' && one != ';') fault("bays 9" + (char) one + ";crane 0", 6);
      if (!isLetter && one != ' ' && !isDigit) fault("bays" + (char) one + " 9;crane 0", 4);
    }
  }

  /** "the length, if the TEXT ends too early" */
  private static void endsTooEarly() {
    fault("", 0);
    fault(" ", 1);
    fault(times(" ", 400), 400);
    for (int k = 1; k <= PARTS.length; k++) {
      String last = PARTS[k - 1];
      String ahead = k > 1 ? PARTS[k - 2] : "";
      boolean whole = Character.isDigit(last.charAt(0)) && (ahead.equals("crane") || ahead.equals("lift") || ahead.equals("takes")
          || ahead.equals("heavy") || ahead.equals("after"));
      String text = joined(0, k, " ");
      fault(text, whole ? -1 : text.length());
      fault(text.trim(), whole ? -1 : text.length() - 1);
      fault(text + "   ", whole ? -1 : text.length() + 3);
    }
    // a word that has begun isn't the word yet
    bad("bays 10;", "c");
    bad("bays 10;crane 1;", "tas");
  }

  /** "LINES with ; between" */
  private static void semicolonsBetween() {
    bad("", ";bays 9;crane 0");
    bad("bays 9;", ";crane 0");
    bad("bays 9;crane 0;", ";crane 1");
    bad("bays 9;crane 0" + TASK + ";", ";task at 0 takes 1");
    bad("bays 9 ", "crane 0");
    bad("bays 9;crane 0 ", "crane 1");
    bad("bays 9;crane 0 ", "task at 0 takes 1");
    bad("bays 9;crane 0" + TASK + " ", "task at 0 takes 1");
    bad("bays 9", ",crane 0");
    bad("bays 9", ":crane 0");
    fault("bays 9;crane 0; ", 16);
    bad("bays", ";9;crane 0");
  }

  private static final String YARD = "bays 9;crane 1 lift 5;crane 4 lift 6;crane 7;task at 3 takes 2 heavy 6;task at 1 takes 1 heavy 5;task at 4 takes 1 heavy 99";

  private static void planFault(String quay, String text, int at) {
    Check.eq(4, "fault(1) of " + text, Check.fault(Check.quay(quay), 1, text), at);
    QuayCranes x = Check.tape(Check.quay(quay), text);
    int last = x.plan();
    Check.eq(6, "plan() of " + text, last == -1000000 ? 1 : 0, at == -1 ? 0 : 1);
    Check.eq(6, "the tape behind plan() of " + text, x.count(0), at == -1 ? 0 : text.length());
    QuayCranes y = Check.tape(Check.quay(quay), text);
    Check.eq(18, "tried() of " + text, y.tried(), last);
    Check.eq(18, "the tape behind tried() of " + text, y.count(0), at == -1 ? 0 : text.length());
  }

  private static void planBad(String ahead, String part) {
    planFault(YARD, ahead + part, ahead.length());
  }

  /** "LINES with ; between, or none at all" */
  private static void planLines() {
    planFault(YARD, "", -1);
    planFault(YARD, " ", -1);
    planFault(YARD, times(" ", 400), -1);
    planFault(YARD, "0", -1);
    planFault(YARD, "0;1", -1);
    planFault(YARD, "0;1;2", -1);
    planFault(YARD, "  2  ;  0  ;  1  ", -1);
    planBad("", ";");
    planBad("", ";0");
    planBad("0;", "");
    planBad("0;   ", "");
    planBad("0;", ";1");
    planBad("0;1;2;", "");
    planBad("0;1;2;", "0");
    planBad("0;1;2;", "3");
    planBad("0;1;2", ",");
    // without tasks, too
    planFault("bays 9;crane 0", "0", -1);
    planFault("bays 9;crane 0", "", -1);
    planFault("bays 9;crane 0", "0 0", 2);
    planFault("bays 9;crane 0;crane 1;crane 2;crane 3", "0;1;2;3", -1);
    planFault("bays 9;crane 0;crane 1;crane 2;crane 3", "0;1;2;3;", 8);
    planFault("bays 9;crane 0;crane 1;crane 2;crane 3", "0;1;2;3;4", 8);
  }

  /** "a CRANE (each in one LINE at most)" */
  private static void planCranes() {
    for (int cranes = 1; cranes <= 4; cranes++) {
      String quay = "bays 9" + ";crane 0;crane 1;crane 2;crane 3".substring(0, 8 * cranes);
      for (int c = 0; c < 7; c++) planFault(quay, "" + c, c < cranes ? -1 : 0);
      planFault(quay, "99", 0);
      planFault(quay, "0;0", 2);
      planFault(quay, "0" + (cranes - 1), -1);
    }
    planBad("1;2;", "1");
    planBad("1 0;2;", "1 1");
    planBad("2;0;", "02");
    planBad("", "crane 0");
    planBad("0 1;", "a");
  }

  /** "then its TASKS in turn ... none at all, too" */
  private static void planTasks() {
    for (int t = 0; t < 12; t++) planFault(YARD, "2 " + t, t < 3 ? -1 : 2);
    planBad("2 ", "99");
    planFault(YARD, "2 2 1 0", -1);
    planFault(YARD, "2 0 1 2;1;0", -1);
    QuayCranes x = Check.planned(YARD, "2 2 0;0");
    Check.row(25, "in turn", Check.written(x), "0;1;2 2 0");
    QuayCranes eight = Check.quay("bays 9;crane 0" + times(TASK, 8));
    Check.eq(4, "fault(1): task 7", Check.fault(eight, 1, "0 7"), -1);
    Check.eq(4, "fault(1): task 8", Check.fault(eight, 1, "0 8"), 2);
    Check.eq(9, "more", Check.quay(YARD).more(0, 1, 1, -1), 3);
    QuayCranes more = Check.quay(YARD);
    more.more(0, 1, 1, -1);
    Check.eq(4, "fault(1): one more", Check.fault(more, 1, "0 3"), -1);
    more.undo();
    Check.eq(4, "fault(1): undone", Check.fault(more, 1, "0 3"), 2);
    more.breaks(0, true);
    Check.eq(4, "fault(1): a broken one may be told", Check.fault(more, 1, "0 1"), -1);
  }

  /** "each once in all" */
  private static void planTasksOnce() {
    planBad("2 0 1 2 ", "0");
    planBad("2 0 ", "0");
    planBad("2 0 ", "00");
    planBad("1 0;2 1 ", "0");
    planBad("0 1;1 0 ", "1");
    planFault(YARD, "1 0;2 1 2", -1);
  }

  /** "none that is HEAVIER than its LIFT" */
  private static void planLift() {
    planFault(YARD, "0 1", -1);
    planBad("0 ", "0");
    planFault(YARD, "1 0", -1);
    planBad("1 0 1 ", "2");
    planFault(YARD, "2 2", -1);
    for (int lift = 1; lift < 100; lift++) {
      String quay = "bays 9;crane 0 lift " + lift + ";task at 0 takes 1 heavy ";
      Check.eq(4, "fault(1) with " + lift, Check.fault(Check.quay(quay + lift), 1, "0 0"), -1);
      if (lift < 99) Check.eq(4, "fault(1) with " + lift, Check.fault(Check.quay(quay + (lift + 1)), 1, "0 0"), 2);
    }
  }

  /** "none that is DONE" */
  private static void planDone() {
    QuayCranes x = Check.planned("bays 9;crane 1;task at 1 takes 2;task at 1 takes 1", "0 0");
    x.go(1);
    Check.eq(4, "fault(1): a minute is left", Check.fault(x, 1, "0 0"), -1);
    x.go(1);
    Check.eq(4, "fault(1): it is done", Check.fault(x, 1, "0 0"), 2);
    Check.eq(4, "fault(1): the other one", Check.fault(x, 1, "0 1"), -1);
    Check.eq(4, "fault(1): behind the other", Check.fault(x, 1, "0 1 0"), 4);
    x.undo();
    Check.eq(4, "fault(1): undone", Check.fault(x, 1, "0 0"), -1);
  }

  private static void planDigitsAndBytes() {
    planBad("", "000");
    planBad("", "001 0");
    planBad("2 ", "000");
    planBad("2 0 ", "010");
    planBad("2 0", "-1");
    planFault(YARD, "02 00 01", -1);
    planFault(YARD, "0201", 0);
    planFault(YARD, "2 0 1", -1);
    planFault(YARD, "2 01", -1);
    for (int one = 1; one < 256; one++) {
      if (one != ' ' && one != ';' && (one < '0' || one > '9')) {
        Check.eq(4, "fault(1)", Check.fault(Check.quay(YARD), 1, "2 0" + (char) one), 3);
        Check.eq(4, "fault(1)", Check.fault(Check.quay(YARD), 1, "2 0 " + (char) one), 4);
        Check.eq(4, "fault(1)", Check.fault(Check.quay(YARD), 1, (char) one + "2 0 "), 0);
        Check.eq(4, "fault(1)", Check.fault(Check.quay(YARD), 1, "2 0;" + (char) one + "1"), 4);
      }
    }
  }

  /** All eight tasks in one list, and spread over four cranes. */
  private static void fullPlan() {
    String quay = "bays 9;crane 0;crane 1;crane 2;crane 3" + times(TASK, 8);
    planFault(quay, "3 7 6 5 4 3 2 1 0;2;1;0", -1);
    planFault(quay, "0 7 6;1 5 4;2 3 2;3 1 0", -1);
    planFault(quay, "0 7 6 5 4 3 2 1 0 7", 18);
    planFault(quay, "0 7 6 5 4 3 2 1 0 8", 18);
    QuayCranes x = Check.planned(quay, "3 7 6 5 4 3 2 1 0;2;1;0");
    Check.row(25, "written", Check.written(x), "0;1;2;3 7 6 5 4 3 2 1 0");
    Check.eq(25, "written(-1)", x.written(-1), 23);
    Check.eq(10, "rule(7)", x.rule(7), 255);
    Check.eq(11, "crane(3, 3)", x.crane(3, 3), 8);
  }

  private static void movesFault(String quay, String text, int at) {
    Check.eq(4, "fault(2) of " + text, Check.fault(Check.quay(quay), 2, text), at);
    QuayCranes x = Check.tape(Check.quay(quay), text);
    Check.eq(19, "moves() of " + text, x.moves() == -1000000 ? 1 : 0, at == -1 ? 0 : 1);
    Check.eq(19, "the tape behind moves() of " + text, x.count(0), at == -1 ? 0 : text.length());
  }

  /** "1 to 40 LINES with ; between", "a 41st LINE at its NUMBER" */
  private static void moves1To40Lines() {
    String one = "bays 9;crane 1";
    movesFault(one, "", 0);
    movesFault(one, " ", 1);
    for (int n = 1; n <= 43; n++) {
      String text = "1" + times(";1", n - 1);
      movesFault(one, text, n <= 40 ? -1 : 80);
      movesFault(one, text + ";", n <= 40 ? 2 * n : 80);
    }
    String forty = "1" + times(";1", 39);
    movesFault(one, forty + ";  x", 82);
    movesFault(one, forty + ";  100", 82);
    movesFault(one, forty + ";;", 80);
    movesFault(one, forty + " 1", 80);
    String four = "bays 9;crane 0;crane 1;crane 2;crane 3";
    String rows = "0 1 2 3" + times(";0 1 2 3", 39);
    movesFault(four, rows, -1);
    movesFault(four, rows + ";0 1 2 3", 320);
    Check.eq(19, "moves(): the last of 40", Check.tape(Check.quay(four), rows.substring(0, 312) + "0 1 2 5").moves(), 39);
    movesFault(one, ";1", 0);
    movesFault(one, "1;;1", 2);
  }

  /** "of all CRANES in turn their BAYS" */
  private static void movesOfAllCranes() {
    for (int cranes = 1; cranes <= 4; cranes++) {
      String quay = "bays 9" + ";crane 0;crane 1;crane 2;crane 3".substring(0, 8 * cranes);
      String row = "0 1 2 3".substring(0, 2 * cranes - 1);
      movesFault(quay, row, -1);
      movesFault(quay, " " + row + " ; " + row + " ", -1);
      movesFault(quay, row + " 9", row.length() + 1);
      movesFault(quay, row + ";" + row + " 9", 2 * row.length() + 2);
      movesFault(quay, row + ";", row.length() + 1);
      if (cranes > 1) {
        String fewer = row.substring(0, row.length() - 2);
        movesFault(quay, fewer, fewer.length());
        movesFault(quay, fewer + ";" + row, fewer.length());
        movesFault(quay, row + ";" + fewer, row.length() + 1 + fewer.length());
      }
    }
  }

  /** "NUMBERS 0 to 99: whether they are there, TRUE tells" */
  private static void movesNumbers() {
    String one = "bays 9;crane 1";
    for (int n = 0; n < 100; n++) {
      movesFault(one, "" + n, -1);
      Check.eq(19, "moves() of " + n, Check.tape(Check.quay(one), "" + n).moves(), n == 1 ? -1 : 0);
    }
    movesFault(one, "00", -1);
    movesFault(one, "01;99", -1);
    movesFault(one, "100", 0);
    movesFault(one, "001", 0);
    movesFault(one, "1;100", 2);
    movesFault(one, "-1", 0);
    for (int b = 1; b < 256; b++) {
      if (b != ' ' && b != ';' && (b < '0' || b > '9')) {
        Check.eq(4, "fault(2)", Check.fault(Check.quay(one), 2, "" + (char) b), 0);
        Check.eq(4, "fault(2)", Check.fault(Check.quay(one), 2, "1" + (char) b), 1);
        Check.eq(4, "fault(2)", Check.fault(Check.quay(one), 2, "1;" + (char) b), 2);
      }
    }
  }

  /** "The FAULT of the TAPE as a QUAY (0), a PLAN (1), MOVES (2). NONE: none; -2: another what, no QUAY (1, 2)." */
  private static void faultOfWhat() {
    QuayCranes x = Check.tape(new QuayCranes(), "0");
    for (int what : new int[] {-1, 1, 2, 3, -2, MIN, MAX}) Check.eq(4, "fault(" + what + ") without a QUAY", x.fault(what), -2);
    Check.eq(4, "fault(0) without a QUAY", x.fault(0), 0);
    Check.tape(x, "bays 9;crane 1");
    Check.eq(4, "fault(0) without a QUAY", x.fault(0), -1);
    x.quay();
    for (int what : new int[] {-1, 3, -2, MIN, MAX}) Check.eq(4, "fault(" + what + ")", x.fault(what), -2);
    Check.eq(4, "fault(0) of nothing", x.fault(0), 0);
    Check.eq(4, "fault(1) of nothing", x.fault(1), -1);
    Check.eq(4, "fault(2) of nothing", x.fault(2), 0);
    Check.tape(x, "0");
    Check.eq(4, "fault(0) of 0", x.fault(0), 0);
    Check.eq(4, "fault(1) of 0", x.fault(1), -1);
    Check.eq(4, "fault(2) of 0", x.fault(2), -1);
    Check.tape(x, "bays 9;crane 1");
    Check.eq(4, "fault(0) of a QUAY", x.fault(0), -1);
    Check.eq(4, "fault(1) of a QUAY", x.fault(1), 0);
    Check.eq(4, "fault(2) of a QUAY", x.fault(2), 0);
    Check.eq(4, "count(0): the tape stays", x.count(0), 14);
    Check.eq(4, "rule(0): the quay stays", x.rule(0), 9);
  }

  /** "NONE: a FAULT (all stays, the TAPE, too)." */
  private static void quayRefused() {
    List<String> faulty = new ArrayList<>(List.of("", "bays 31;crane 0", "bays 9;crane 0;", "bays 5;gap 2;crane 0;crane 1", "bays 3;crane 0;task at 0 takes 3 after 0"));
    faulty.add("bays 2;crane 0" + times(TASK, 9));
    for (String text : faulty) {
      Check.leaves(5, "quay() of " + text, () -> Check.tape(busy(), text), x -> Check.eq(5, "quay() of " + text, x.quay(), -1), -1);
    }
    QuayCranes x = Check.tape(new QuayCranes(), "bays 3");
    Check.eq(5, "quay()", x.quay(), -1);
    Check.eq(5, "rule(0): no QUAY yet", x.rule(0), -1000000);
    Check.eq(5, "count(0)", x.count(0), 6);
    Check.eq(5, "feed goes on", x.feed(';' << 24 | 'c' << 16 | 'r' << 8 | 'a', 'n' << 24 | 'e' << 16 | ' ' << 8 | '2', 0, 0, 0), 14);
    Check.eq(5, "quay()", x.quay(), 0);
    Check.eq(5, "rule(0)", x.rule(0), 3);
  }

  private static QuayCranes busy() {
    QuayCranes x = Check.planned("bays 10;gap 2;crane 1;crane 5;task at 3 takes 2;task at 6 takes 3 after 0", "0 0;1 1");
    x.go(3);
    x.image();
    x.go(2);
    x.breaks(1, true);
    return x;
  }

  /** "The TAPE (empty then) is the QUAY (MINUTE 0, no PLAN, no ACTS, no IMAGE): how many TASKS." */
  private static void quayAnew() {
    QuayCranes x = busy();
    Check.eq(5, "quay()", Check.tape(x, "bays 10;gap 2;crane 1;crane 5;task at 3 takes 2;task at 6 takes 3 after 0").quay(), 2);
    Check.row(5, "state", Check.state(x), Check.state(Check.quay("bays 10;gap 2;crane 1;crane 5;task at 3 takes 2;task at 6 takes 3 after 0")));
    Check.eq(5, "count(0): the tape is empty", x.count(0), 0);
    Check.eq(5, "count(1): no ACTS", x.count(1), 0);
    Check.eq(5, "undo()", x.undo(), -1);
    Check.eq(5, "back(): no IMAGE", x.back(), -1);
    Check.eq(5, "rule(4): MINUTE 0", x.rule(4), 0);
    Check.eq(5, "rule(5): nothing DONE", x.rule(5), 0);
    Check.eq(5, "rule(6): none BROKEN", x.rule(6), 0);
    Check.eq(5, "rule(7): no PLAN", x.rule(7), 0);
    for (int c = 0; c < 2; c++) {
      Check.eq(5, "crane(.., 0)", x.crane(c, 0), c == 0 ? 1 : 5);
      Check.eq(5, "crane(.., 3)", x.crane(c, 3), 0);
      Check.eq(5, "crane(.., 5): no SWAY", x.crane(c, 5), 0);
    }
    Check.eq(5, "task(0, 4): no MINUTES done", x.task(0, 4), 0);
    // a smaller one: nothing of the larger is left
    Check.eq(5, "quay()", Check.tape(x, "bays 2;crane 1").quay(), 0);
    Check.eq(5, "rule(2)", x.rule(2), 1);
    Check.eq(5, "task(0, 0)", x.task(0, 0), -1);
    Check.eq(5, "crane(1, 0) throws", Check.throwsNone(x, 1, 0), 1);
  }
}
