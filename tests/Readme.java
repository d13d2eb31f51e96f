import java.io.IOException;
import java.nio.file.Files;
import java.nio.file.Path;
import java.util.regex.Matcher;
import java.util.regex.Pattern;

/** Promises 1 to 9, 12, 24, 34, 37: the example of README.md, line by line: each call answers what stands behind it. */
public final class Readme {
  private static final Pattern LINE = Pattern.compile("(?m)^x\\.(\\w+)\\((.*?)\\); *// (-?\\d+)");

  public static void main(String[] args) throws IOException {
    Matcher lines = LINE.matcher(Files.readString(Path.of("README.md")));
    QuayCranes x = new QuayCranes();
    while (lines.find()) {
      String call = lines.group(1) + "(" + lines.group(2) + ")";
      Check.eq(1, "README: " + call, answer(x, lines.group(1), numbers(lines.group(2))), Long.parseLong(lines.group(3)));
    }
    Check.eq(1, "README: lines looked at", Check.made, 14);
    Check.ends("Readme");
  }

  private static int[] numbers(String text) {
    String[] parts = text.isEmpty() ? new String[0] : text.split(", ");
    int[] numbers = new int[parts.length];
    for (int k = 0; k < parts.length; k++) numbers[k] = parts[k].equals("true") ? 1 : Long.decode(parts[k]).intValue();
    return numbers;
  }

  private static int answer(QuayCranes x, String name, int[] a) {
    switch (name) {
      case "feed": return x.feed(a[0], a[1], a[2], a[3], a[4]);
      case "fault": return x.fault(a[0]);
      case "quay": return x.quay();
      case "plan": return x.plan();
      case "go": return x.go(a[0]);
      case "task": return x.task(a[0], a[1]);
      case "undo": return x.undo();
      case "follow": return x.follow(a[0]);
      case "breaks": return x.breaks(a[0], a[1] != 0);
      case "status": return x.status(a[0]);
      default: throw new IllegalArgumentException("the example calls " + name + ", this test can't");
    }
  }
}
