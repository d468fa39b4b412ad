import java.lang.reflect.Constructor;
import java.lang.reflect.Field;
import java.lang.reflect.Member;
import java.lang.reflect.Method;
import java.lang.reflect.Modifier;
import java.nio.file.Files;
import java.nio.file.Path;
import java.util.ArrayList;
import java.util.Arrays;
import java.util.List;
import java.util.TreeSet;

/** The public face is the document's, no more and no less, and the source keeps off what LANGUAGE.md forbids. */
public final class FaceTest {
  private static final String[] METHODS = {
    "int panel(int,int,int)", "int row(int)", "boolean kind(int,int,int)", "int shape(int,int,int,int)",
    "long ahead(int,int,int,int)", "int meshes(int,int)", "int of(int,int,int,int)",
    "boolean side(int,int,int,int,boolean)", "int cut(int,int,int)", "boolean tear(int,int)",
    "boolean needle(int,int,int,boolean)", "int hole(int,int,int)", "int edge(int,int)", "int mend(int,int,int)",
    "int way(int)", "int taper(int,int,int)", "int cycle(int)", "int sew(int,int)", "int match(int)",
    "boolean hang(int,int,int)", "boolean parts(int)", "boolean part(int,int)", "int open(int)",
    "int slips(int,int)", "boolean pull(int,int,int)", "long load(int,int,int,int)", "long sum(int,int,int)",
    "int weak(int)", "int count(int)", "int panelOf(int,int)"};
  private static final String[] FORBIDDEN = {
    "throw", "try", "catch", "synchronized", "assert", "import", "->", "::", "System.out", "Exact(", "package"};
  private static final int MOST_PARAMETERS = 7;
  private static final int MOST_CLASSES = 12;
  private static final int MOST_FIELDS = 20;
  private static final int MOST_LINES = 60;
  private static int wrong = 0;

  public static void main(String[] args) throws Exception {
    checkMethods();
    checkMembers();
    checkSource();
    checkSizes();
    checkMethodLengths();
    System.out.println(wrong == 0 ? "the face is as due" : wrong + " faults of the face");
    if (wrong != 0) System.exit(1);
  }

  private static void fault(String what) {
    wrong++;
    System.out.println(what);
  }

  private static void checkMethods() {
    TreeSet<String> want = new TreeSet<>(Arrays.asList(METHODS));
    TreeSet<String> got = new TreeSet<>();
    for (Method m : NetLoft.class.getDeclaredMethods()) {
      if (Modifier.isPrivate(m.getModifiers())) continue;
      StringBuilder parameters = new StringBuilder();
      for (Class<?> type : m.getParameterTypes()) {
        parameters.append(parameters.length() == 0 ? "" : ",").append(type.getName());
      }
      if (!Modifier.isPublic(m.getModifiers())) fault("not public: " + m);
      got.add(m.getReturnType().getName() + " " + m.getName() + "(" + parameters + ")");
    }
    if (!want.equals(got)) fault("methods are " + got + ", due are " + want);
  }

  private static void checkMembers() throws Exception {
    if (!Modifier.isPublic(NetLoft.class.getModifiers())) fault("the class is not public");
    if (!Modifier.isFinal(NetLoft.class.getModifiers())) fault("the class is not final");
    for (Field f : NetLoft.class.getDeclaredFields()) {
      boolean none = f.getName().equals("NONE");
      if (none != Modifier.isPublic(f.getModifiers())) fault("not as due: " + f);
      if (!none && !Modifier.isPrivate(f.getModifiers())) fault("not private: " + f);
      if (Modifier.isStatic(f.getModifiers()) && !Modifier.isFinal(f.getModifiers())) fault("not final: " + f);
    }
    for (Constructor<?> c : NetLoft.class.getDeclaredConstructors()) {
      if (!Modifier.isPublic(c.getModifiers()) || c.getParameterCount() != 0) fault("not as due: " + c);
    }
    if (NetLoft.NONE != -1) fault("NONE is not -1");
    checkInnerNames();
  }

  private static void checkInnerNames() {
    TreeSet<String> names = new TreeSet<>();
    for (String method : METHODS) names.add(method.substring(method.indexOf(' ') + 1, method.indexOf('(')));
    for (Class<?> inner : NetLoft.class.getDeclaredClasses()) {
      if (!Modifier.isStatic(inner.getModifiers())) fault("not static: " + inner);
      for (Member m : inner.getDeclaredMethods()) {
        if (names.contains(m.getName())) fault("bears a public name: " + m);
      }
    }
  }

  private static void checkSource() throws Exception {
    String source = Files.readString(Path.of("src/main/java/NetLoft.java"));
    String code = source.replaceAll("(?s)/\\*.*?\\*/", " ").replaceAll("//[^\n]*", " ");
    for (String word : FORBIDDEN) {
      boolean plain = Character.isLetter(word.charAt(0)) && Character.isLetter(word.charAt(word.length() - 1));
      String sought = plain ? "(?s).*\\b" + word + "\\b.*" : "(?s).*\\Q" + word + "\\E.*";
      if (code.matches(sought)) fault("the source has '" + word + "'");
    }
  }

  /** Rules 2, 3, 5 and 11 of LANGUAGE.md, as far as reflection tells. */
  private static void checkSizes() {
    List<Class<?>> classes = new ArrayList<>(List.of(NetLoft.class.getDeclaredClasses()));
    classes.add(NetLoft.class);
    if (classes.size() > MOST_CLASSES) fault(classes.size() + " classes");
    for (Class<?> one : classes) {
      if (one != NetLoft.class && one.getDeclaredClasses().length > 0) fault("classes inside " + one);
      int fields = 0;
      for (Field f : one.getDeclaredFields()) {
        boolean fixed = Modifier.isStatic(f.getModifiers());
        fields += fixed ? 0 : 1;
        if (fixed && (!Modifier.isFinal(f.getModifiers()) || !f.getType().isPrimitive())) fault("no constant: " + f);
        if (!isAllowed(f.getType())) fault("of another type: " + f);
      }
      if (fields > MOST_FIELDS) fault(fields + " fields in " + one);
      for (Method m : one.getDeclaredMethods()) {
        if (m.getParameterCount() > MOST_PARAMETERS) fault("too many parameters: " + m);
        if (m.isSynthetic()) fault("not written: " + m);
      }
    }
  }

  private static boolean isAllowed(Class<?> type) {
    Class<?> one = type.isArray() ? type.getComponentType() : type;
    if (one.isArray()) return one.getComponentType().isPrimitive();
    return one.isPrimitive() || one.getName().startsWith("NetLoft$") || one == String.class;
  }

  /** A method of the class begins with 4 signs of space, one of a class inside it with 8, and ends in the same column. */
  private static void checkMethodLengths() throws Exception {
    List<String> lines = Files.readAllLines(Path.of("src/main/java/NetLoft.java"));
    for (int i = 0; i < lines.size(); i++) {
      if (!lines.get(i).matches("( {4}| {8})[a-z].*\\) \\{")) continue;
      String end = lines.get(i).startsWith("        ") ? "        }" : "    }";
      if (lines.get(i).trim().matches("(if|for|while|switch) .*")) continue;
      int length = 1;
      while (i + length < lines.size() && !lines.get(i + length).equals(end)) length++;
      if (length >= MOST_LINES) fault("a method of " + (length + 1) + " lines: " + lines.get(i).trim());
    }
  }
}
