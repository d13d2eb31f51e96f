import java.util.NoSuchElementException;
import java.util.function.Consumer;
import java.util.function.Supplier;

/** What the tests of the promises share: texts fed by twenties, answers compared. */
public final class Check {
  static int wrong = 0;
  static int made = 0;

  static void eq(int promise, String call, long got, long want) {
    made++;
    if (got != want) {
      wrong++;
      System.out.println("promise " + promise + ": " + call + " answered " + got + ", due is " + want);
    }
  }

  /** The answers of one call for several arguments, written with blanks between. */
  static void row(int promise, String call, String got, String want) {
    made++;
    if (!got.trim().equals(want)) {
      wrong++;
      System.out.println("promise " + promise + ": " + call + " answered " + got + ", due is " + want);
    }
  }

  static void ends(String what) {
    System.out.println(what + ": " + made + " answers looked at, " + wrong + " wrong");
    if (wrong != 0) System.exit(1);
  }

  static int[] packed(String text, int from) {
    int[] five = new int[5];
    for (int k = 0; k < 20 && from + k < text.length(); k++) five[k / 4] |= text.charAt(from + k) << 24 - k % 4 * 8;
    return five;
  }

  /** The tape holds the text and nothing else. */
  static QuayCranes tape(QuayCranes x, String text) {
    x.end(0);
    for (int from = 0; from < text.length(); from += 20) {
      int[] f = packed(text, from);
      x.feed(f[0], f[1], f[2], f[3], f[4]);
    }
    return x;
  }

  static QuayCranes quay(String text) {
    QuayCranes x = tape(new QuayCranes(), text);
    if (x.quay() < 0) {
      wrong++;
      System.out.println("no QUAY: " + text + " " + x.fault(0));
    }
    return x;
  }

  static QuayCranes planned(String text, String plan) {
    QuayCranes x = quay(text);
    tape(x, plan).plan();
    return x;
  }

  static int fault(QuayCranes x, int what, String text) {
    return tape(x, text).fault(what);
  }

  static int fault(String text) {
    return fault(new QuayCranes(), 0, text);
  }

  /** 1: crane(..) throws NoSuchElementException; 0: it answers. */
  static int throwsNone(QuayCranes x, int crane, int what) {
    try {
      x.crane(crane, what);
      return 0;
    } catch (NoSuchElementException e) {
      return 1;
    }
  }

  static String written(QuayCranes x) {
    StringBuilder sb = new StringBuilder();
    int many = x.written(-1);
    for (int k = 0; k < many; k++) sb.append((char) x.written(k));
    return sb.toString();
  }

  static String wheres(QuayCranes x, int crane, int minutes) {
    StringBuilder sb = new StringBuilder();
    for (int m = 0; m <= minutes; m++) sb.append(x.where(crane, m)).append(' ');
    return sb.toString();
  }

  static String deeds(QuayCranes x, int crane, int minutes) {
    StringBuilder sb = new StringBuilder();
    for (int m = 0; m < minutes; m++) sb.append(x.deed(crane, m)).append(' ');
    return sb.toString();
  }

  /** All that can be asked of the state, as a text: the same, if nothing has changed. */
  static String state(QuayCranes x) {
    StringBuilder sb = new StringBuilder();
    for (int k = 0; k < 8; k++) sb.append(x.rule(k)).append(' ');
    for (int c = 0; c < Math.max(0, x.rule(2)); c++) for (int k = 0; k < 6; k++) sb.append(x.crane(c, k)).append(' ');
    for (int t = 0; t < Math.max(0, x.rule(3)); t++) for (int k = 0; k < 9; k++) sb.append(x.task(t, k)).append(' ');
    return sb.append(written(x)).append(' ').append(x.last()).toString();
  }

  /** What acts change and what is left of them to be undone, the image, the tape: asked in a way that uses the object up. */
  private static String whole(QuayCranes x) {
    StringBuilder sb = new StringBuilder(state(x)).append(" tape ").append(x.count(0));
    for (int what = 0; what < 3; what++) sb.append(' ').append(x.fault(what));
    for (int k = 0; k < 11; k++) sb.append(" acts ").append(x.count(1)).append(' ').append(x.undo()).append(brief(x));
    return sb.append(" image ").append(x.back()).append(brief(x)).toString();
  }

  private static String brief(QuayCranes x) {
    StringBuilder sb = new StringBuilder(" :");
    for (int k = 3; k < 8; k++) sb.append(' ').append(x.rule(k));
    return sb.append(' ').append(x.last()).toString();
  }

  /** A call that is refused leaves all as it was, but for one more in STATUS (why, or -1: in none). */
  static void leaves(int promise, String what, Supplier<QuayCranes> made, Consumer<QuayCranes> refused, int why) {
    QuayCranes untouched = made.get();
    QuayCranes x = made.get();
    refused.accept(x);
    for (int k = 0; k < 4; k++) eq(promise, "status(" + k + ") behind " + what, x.status(k), untouched.status(k) + (k == why ? 1 : 0));
    row(promise, "all that stays behind " + what, whole(x), whole(untouched));
  }
}
