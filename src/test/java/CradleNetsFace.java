import java.io.IOException;
import java.lang.reflect.Constructor;
import java.lang.reflect.Field;
import java.lang.reflect.Method;
import java.lang.reflect.Modifier;
import java.nio.file.Files;
import java.nio.file.Path;
import java.util.Arrays;
import java.util.TreeSet;
import java.util.regex.Matcher;
import java.util.regex.Pattern;

/** The face as the document writes it, and the rules of LANGUAGE.md that can be read off the file or the class. */
public final class CradleNetsFace {
  private static final String[] FACE = {
    "int making()", "int out(int,int)", "int needs(int,int,int)", "int by(int,int,int)",
    "int emits(int,int,int,int,int)", "int good(int,int,int)", "int rule(int,int)", "int told(int,int)",
    "int entry(int,int)", "long worth()", "int put(int,int,int)", "long runs(int,int)",
    "long total(int,int,int,int)", "long share(int,int,int)", "long way(int,int,int,int,int)",
    "int sure(int,int,int)", "int most(int,int)", "int turned(int)", "int keep()", "int recall(int)",
    "long blame(int,int,int,int)", "int count(int)", "long digest()"};
  private static final String[] CONSTANTS = {"NONE", "UNKNOWN", "OUTSIDE", "STATE", "BOUND", "FULL"};
  private static final String BANNED =
      "\\b(throw|throws|try|catch|synchronized|assert|import|package|Random|System\\.(?!arraycopy)\\w+|Thread|\\w+Exact)\\b|->|::";

  private static int wrong = 0;

  private static void check(boolean so, String what) {
    if (!so) { wrong++; System.out.println("not so: " + what); }
  }

  private static String told(Method m) {
    StringBuilder types = new StringBuilder();
    for (Class<?> t : m.getParameterTypes()) types.append(types.length() > 0 ? "," : "").append(t.getName());
    return m.getReturnType().getName() + " " + m.getName() + "(" + types + ")";
  }

  private static void faceIsTheDocuments() {
    Class<CradleNets> c = CradleNets.class;
    check(Modifier.isPublic(c.getModifiers()) && Modifier.isFinal(c.getModifiers()), "the class is public and final");
    TreeSet<String> open = new TreeSet<>();
    TreeSet<String> openNames = new TreeSet<>();
    for (Method m : c.getDeclaredMethods()) {
      if (Modifier.isPrivate(m.getModifiers())) continue;
      check(Modifier.isPublic(m.getModifiers()) && !Modifier.isStatic(m.getModifiers()), m.getName() + " is public");
      open.add(told(m));
      openNames.add(m.getName());
    }
    check(open.equals(new TreeSet<>(Arrays.asList(FACE))), "the methods are the document's: " + open);
    for (Constructor<?> k : c.getDeclaredConstructors()) {
      check(Modifier.isPublic(k.getModifiers()) && k.getParameterCount() == 0, "one public constructor");
    }
    TreeSet<String> constants = new TreeSet<>();
    for (Field f : c.getDeclaredFields()) {
      check(!Modifier.isStatic(f.getModifiers()) || Modifier.isFinal(f.getModifiers()), f.getName() + " is final");
      if (!Modifier.isPrivate(f.getModifiers())) constants.add(f.getName());
    }
    check(constants.equals(new TreeSet<>(Arrays.asList(CONSTANTS))), "the constants are the document's: " + constants);
    privateNamesAreTheirOwn(c, openNames);
    for (Class<?> inside : c.getDeclaredClasses()) {
      check(Modifier.isStatic(inside.getModifiers()) && !Modifier.isPublic(inside.getModifiers()), inside + " is static");
      privateNamesAreTheirOwn(inside, openNames);
    }
    check(c.getDeclaredClasses().length <= 11, "twelve classes at most");
  }

  private static void privateNamesAreTheirOwn(Class<?> c, TreeSet<String> openNames) {
    int fields = 0;
    for (Field f : c.getDeclaredFields()) if (!Modifier.isStatic(f.getModifiers())) fields++;
    check(fields <= 20, c + " has twenty fields at most");
    for (Method m : c.getDeclaredMethods()) {
      check(Modifier.isPublic(m.getModifiers()) || !openNames.contains(m.getName()), m + " bears no public name");
      check(m.getParameterCount() <= 7, m + " takes seven parameters at most");
    }
  }

  private static void textKeepsToTheLanguage(String text) {
    String code = text.replaceAll("(?s)/\\*.*?\\*/", " ").replaceAll("//[^\n]*", " ");
    Matcher banned = Pattern.compile(BANNED).matcher(code);
    while (banned.find()) check(false, "'" + banned.group() + "' is not in the language");
    for (char ch : text.toCharArray()) if (ch > 126) { check(false, "plain characters alone"); break; }
  }

  // A call that made anything would show within so many.
  private static void callsMakeNothing() {
    CradleNets x = new CradleNets();
    for (int i = 0; i < 4; i++) x.making();
    x.keep();
    com.sun.management.ThreadMXBean bean = (com.sun.management.ThreadMXBean) java.lang.management.ManagementFactory.getThreadMXBean();
    long id = Thread.currentThread().getId();
    everyCall(x, 400);
    long before = bean.getThreadAllocatedBytes(id);
    everyCall(x, 4000);
    long bytes = bean.getThreadAllocatedBytes(id) - before;
    check(bytes < 50000, "calls make no objects, but " + bytes + " bytes were taken");
  }

  private static long everyCall(CradleNets x, int times) {
    long h = 0;
    for (int n = 0; n < times; n++) {
      h += x.making() + x.out(0, 2) + x.needs(0, 1, n % 3) + x.by(1, 0, 2) + x.emits(0, 0, 1, 2, 3) + x.good(0, 2, 3);
      h += x.rule(0, n % 3) + x.told(0, 3) + x.entry(0, 0) + x.worth() + x.put(0, 0, 3) + x.runs(0, 0);
      h += x.total(0, 0, 1, 0) + x.share(0, 0, 0) + x.way(0, 0, 0, 1, 2) + x.sure(0, 1, 0) + x.most(0, 0) + x.turned(0);
      h += x.recall(0) + x.blame(0, 0, 0, 1) + x.count(3) + x.digest() + x.keep();
    }
    return h;
  }

  public static void main(String[] args) throws IOException {
    faceIsTheDocuments();
    textKeepsToTheLanguage(Files.readString(Path.of("src/main/java/CradleNets.java")));
    callsMakeNothing();
    System.out.println(wrong == 0 ? "the face and the language are as due" : wrong + " things are not as due");
    if (wrong != 0) System.exit(1);
  }
}
