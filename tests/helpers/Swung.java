/** A crane that has stepped (M) or stood still without a task (R) in a row of minutes, one by one. */
public final class Swung {
  final QuayCranes crane = Check.quay("bays 30;crane 15;task at 0 takes 9;task at 29 takes 9");
  private int at = 15;

  Swung(String row) {
    for (int k = 0; k < row.length(); k++) minute(row.charAt(k) == 'M', k % 2 == 0);
  }

  /** It goes to and fro, so as to be at no end of the quay. */
  private void minute(boolean steps, boolean up) {
    Check.tape(crane, !steps ? "" : up && at < 29 || at == 0 ? "0 1" : "0 0").plan();
    crane.go(1);
    at = crane.crane(0, 0);
  }
}
