import java.io.IOException;
import java.lang.reflect.Constructor;
import java.lang.reflect.Executable;
import java.lang.reflect.Field;
import java.lang.reflect.Method;
import java.lang.reflect.Modifier;
import java.nio.file.Files;
import java.nio.file.Path;
import java.util.ArrayDeque;
import java.util.Arrays;
import java.util.Deque;
import java.util.List;
import java.util.NoSuchElementException;
import java.util.TreeSet;
import java.util.regex.Matcher;
import java.util.regex.Pattern;

/** The face of the class, the rules of LANGUAGE.md that can be looked up, and how much room its calls take. */
public final class Face {
  private static final String FACE = "back():int best(int):int better(int):int bound(int):int breaks(int,boolean):int count(int):int "
      + "crane(int,int):int dearest(int):int deed(int,int):int deeds(int,int,int):int doneBy(int):int easy(int):int end(int):boolean "
      + "fault(int):int feed(int,int,int,int,int):int follow(int):int go(int):int idle(int):int image():int last():int mean(int):long "
      + "more(int,int,int,int):int most(int):int moves():int nearest(int):int plan():int quay():int rule(int):int slack(int):int "
      + "status(int):int swings(int,int):int task(int,int):int tried():int undo():int where(int,int):int without(int):int "
      + "written(int):int zones(int):int";

  public static void main(String[] args) throws IOException {
    face();
    classes(QuayCranes.class);
    text(Files.readString(Path.of("src/main/java/QuayCranes.java")));
    room();
    Check.ends("Face");
  }

  private static void yes(String what, boolean is) {
    Check.eq(1, what, is ? 1 : 0, 1);
  }

  private static void face() {
    Check.eq(1, "NONE", QuayCranes.NONE, -1);
    Check.eq(1, "HIDDEN", QuayCranes.HIDDEN, -1000000);
    yes("a public final class", QuayCranes.class.getModifiers() == (Modifier.PUBLIC | Modifier.FINAL));
    TreeSet<String> seen = new TreeSet<>();
    TreeSet<String> names = new TreeSet<>();
    for (Method m : QuayCranes.class.getDeclaredMethods()) {
      if (Modifier.isPublic(m.getModifiers())) {
        seen.add(m.getName() + Arrays.toString(m.getParameterTypes()).replace("[", "(").replace("]", ")").replace(" ", "") + ":" + m.getReturnType());
        names.add(m.getName());
        List<Class<?>> thrown = List.of(m.getExceptionTypes());
        yes(m + " declares what it throws", thrown.equals(m.getName().equals("crane") ? List.of(NoSuchElementException.class) : List.of()));
      }
    }
    Check.row(1, "the face", String.join(" ", seen), FACE);
    for (Method m : QuayCranes.class.getDeclaredMethods()) {
      if (!Modifier.isPublic(m.getModifiers())) {
        yes("private " + m, Modifier.isPrivate(m.getModifiers()) || m.isSynthetic());
        yes("a name of its own " + m, !names.contains(m.getName()));
      }
    }
    for (Field f : QuayCranes.class.getDeclaredFields()) {
      boolean isConstant = f.getName().equals("NONE") || f.getName().equals("HIDDEN");
      yes("private " + f, isConstant ? Modifier.isPublic(f.getModifiers()) : Modifier.isPrivate(f.getModifiers()));
    }
    Constructor<?>[] made = QuayCranes.class.getDeclaredConstructors();
    yes("one public constructor", made.length == 1 && Modifier.isPublic(made[0].getModifiers()) && made[0].getParameterCount() == 0);
  }

  private static void classes(Class<?> outer) {
    yes("at most twelve classes", outer.getDeclaredClasses().length <= 11);
    Deque<Class<?>> all = new ArrayDeque<>(List.of(outer.getDeclaredClasses()));
    for (Class<?> c : all) yes("static, not public: " + c, Modifier.isStatic(c.getModifiers()) && !Modifier.isPublic(c.getModifiers()));
    all.add(outer);
    for (Class<?> c : all) {
      int fields = 0;
      for (Field f : c.getDeclaredFields()) {
        boolean isStatic = Modifier.isStatic(f.getModifiers());
        fields += isStatic ? 0 : 1;
        yes("static ones are final constants: " + f, !isStatic || Modifier.isFinal(f.getModifiers()) && f.getType() == int.class);
      }
      yes("at most twenty fields: " + c + " " + fields, fields <= 20);
      for (Executable m : c.getDeclaredMethods()) yes("at most seven parameters: " + m, m.getParameterCount() <= 7);
    }
  }

  private static void text(String source) {
    Matcher imports = Pattern.compile("import [^;]*;").matcher(source);
    yes("one import", imports.find() && imports.group().equals("import java.util.NoSuchElementException;") && !imports.find());
    for (String word : new String[] {"->", "::", "synchronized", "assert", "finally", "instanceof", "try ", "catch", "System.", "Float.", "Double.",
        "Exact(", "\"\"\"", "record ", "Thread", "hashCode", "toString", "new String", "package "}) {
      yes("no " + word, !source.contains(word));
    }
    Check.eq(1, "throws once", source.split("throw new ").length - 1, 1);
    String[] lines = source.split("\n");
    int start = 0;
    for (int k = 0; k < lines.length; k++) {
      if (lines[k].matches(" {4}(    )?[a-z].*\\) (throws \\w+ )?\\{")) start = k;
      if (lines[k].matches(" {4}(    )?\\}")) yes("at most sixty lines, at line " + k, k - start < 60);
      yes("signs 1 to 127, at line " + k, lines[k].chars().allMatch(c -> c > 0 && c < 128));
    }
  }

  /** The dearest calls again and again make nothing: all rows are made with the object. */
  private static void room() {
    com.sun.management.ThreadMXBean threads = (com.sun.management.ThreadMXBean) java.lang.management.ManagementFactory.getThreadMXBean();
    long me = Thread.currentThread().getId();
    for (int warm = 0; warm < 2; warm++) {
      long before = threads.getThreadAllocatedBytes(me);
      QuayCranes x = new QuayCranes();
      long made = threads.getThreadAllocatedBytes(me) - before;
      int[][] quay = new int[10][];
      String text = "bays 20;gap 2;crane 1;crane 5;crane 9;task at 3 takes 9;task at 17 takes 3 after 0;task at 9 takes 4;task at 1 takes 5;task at 12 takes 3";
      for (int k = 0; k < quay.length; k++) quay[k] = Check.packed(text, k * 20);
      before = threads.getThreadAllocatedBytes(me);
      for (int[] f : quay) x.feed(f[0], f[1], f[2], f[3], f[4]);
      x.fault(0);
      x.quay();
      for (int k = 0; k < 25; k++) {
        x.follow(k % 4);
        x.go(1);
        x.dearest(0);
        x.best(0);
        x.better(0);
        x.slack(1);
        x.idle(300);
        x.swings(0, 300);
        x.bound(0);
        x.mean(0);
        x.written(2);
        x.breaks(k % 3, k % 2 == 0);
        x.image();
        x.undo();
        x.back();
        x.moves();
        x.more(k % 20, 1, 1, -1);
        x.tried();
        x.plan();
      }
      long spent = threads.getThreadAllocatedBytes(me) - before;
      yes("an object takes " + made, made < 60000);
      yes("its calls take " + spent, spent < 2000);
    }
  }
}
