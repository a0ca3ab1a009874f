import java.io.IOException;
import java.lang.reflect.Constructor;
import java.lang.reflect.Field;
import java.lang.reflect.Member;
import java.lang.reflect.Method;
import java.lang.reflect.Modifier;
import java.nio.file.Files;
import java.nio.file.Path;
import java.util.Arrays;
import java.util.Set;
import java.util.TreeSet;
import java.util.regex.Matcher;
import java.util.regex.Pattern;

/** The public face is the document's, and the source keeps away from what ../shared/LANGUAGE.md rules out by a word. */
public final class FaceTest {
  private static final String[] FACE = {
    "int BAD_INDEX = -1", "int BAD_VALUE = -2", "int NOT_POSSIBLE = -3", "int FULL = -4", "int REFUSED = -5", "int NONE = -6",
    "int LIGHT = 0", "int MEDIUM = 1", "int HEAVY = 2", "int HOLDING = 0", "int LANDED = 1", "int DIVERTED = 2",
    "int TAKEN = 1", "int SHORT = 2", "int CROWDED = 3",
    "HoldingStack()", "int begin(int)", "int setLap(int)", "int setLimit(int)", "int setRunway(boolean)",
    "int setLadder(boolean)", "int enter(int, int, int)", "int call(int)", "int pass(int)", "int level(int)",
    "int aircraft(int, int)", "int tell(int)", "int why(int)", "int minutesLeft(int)", "int landsWith(int)",
    "int endurance(int)", "int bestLevel(int, int)", "int lands(int)", "int append(int)", "int clearText()",
    "int faultPosition()", "int run()", "int undo()", "int keep(int)", "int restore(int)", "long checksum()",
  };
  private static final String[] RULED_OUT = {
    "\\bthrows?\\b", "\\btry\\b", "\\bcatch\\b", "\\bsynchronized\\b", "\\bassert\\b", "->", "::", "^import (?!java\\.util\\.(Arrays|ArrayList|List|Iterator);)",
    "^package\\b", "\\w+Exact\\(", "\\bequals\\(", "\\bhashCode\\(", "\\btoString\\(", "\\bvalues\\(", "\\bordinal\\(", "\\bstatic \\{", "\\bgoto\\b", "[^\\x00-\\x7f]",
  };

  private static int wrong = 0;

  public static void main(String[] args) throws IOException, IllegalAccessException {
    face();
    membersOfItsOwn();
    source(Path.of(args.length > 0 ? args[0] : "src/main/java/HoldingStack.java"));
    System.out.println(FACE.length + " members, " + wrong + " faults");
    if (wrong != 0) {
      System.exit(1);
    }
  }

  private static void fault(String text) {
    wrong++;
    System.out.println(text);
  }

  private static void face() throws IllegalAccessException {
    Set<String> found = new TreeSet<>();
    Class<?> c = HoldingStack.class;
    for (Field field : c.getDeclaredFields()) {
      if (Modifier.isPublic(field.getModifiers())) {
        int constant = Modifier.STATIC | Modifier.FINAL;
        found.add((field.getModifiers() & constant) == constant ? field.getType() + " " + field.getName() + " = " + field.get(null) : field.toString());
      }
    }
    for (Constructor<?> constructor : c.getConstructors()) {
      found.add(c.getName() + parameters(constructor.getParameterTypes()));
    }
    for (Method method : c.getDeclaredMethods()) {
      if (Modifier.isPublic(method.getModifiers())) {
        found.add(method.getReturnType() + " " + method.getName() + parameters(method.getParameterTypes()));
      }
    }
    Set<String> due = new TreeSet<>(Arrays.asList(FACE));
    if (!found.equals(due)) {
      fault("the face is " + found + ", due is " + due);
    }
    if (!Modifier.isFinal(c.getModifiers()) || !Modifier.isPublic(c.getModifiers())) {
      fault("the class is not public and final");
    }
  }

  private static String parameters(Class<?>[] types) {
    return Arrays.toString(types).replace('[', '(').replace(']', ')');
  }

  private static void membersOfItsOwn() {
    Class<?> c = HoldingStack.class;
    Set<String> publicNames = new TreeSet<>();
    for (Method method : c.getDeclaredMethods()) {
      if (Modifier.isPublic(method.getModifiers())) {
        publicNames.add(method.getName());
      }
    }
    for (Method method : c.getDeclaredMethods()) {
      ownMember(method);
      if (Modifier.isPrivate(method.getModifiers()) && publicNames.contains(method.getName())) {
        fault("a private method bears the public name " + method.getName());
      }
    }
    for (Field field : c.getDeclaredFields()) {
      ownMember(field);
    }
    for (Class<?> inner : c.getDeclaredClasses()) {
      if (!Modifier.isStatic(inner.getModifiers()) || (inner.getModifiers() & (Modifier.PUBLIC | Modifier.PROTECTED)) != 0) {
        fault(inner + " is not static and hidden");
      }
    }
  }

  private static void ownMember(Member member) {
    int seen = member.getModifiers() & (Modifier.PUBLIC | Modifier.PRIVATE);
    if (seen == 0 && !member.isSynthetic()) {
      fault(member + " is neither public nor private");
    }
  }

  private static void source(Path path) throws IOException {
    String text = Files.readString(path).replaceAll("(?s)/\\*.*?\\*/", "").replaceAll("//[^\n]*", "");
    for (String ruledOut : RULED_OUT) {
      Matcher m = Pattern.compile(ruledOut, Pattern.MULTILINE).matcher(text);
      if (m.find()) {
        fault("the source has " + m.group());
      }
    }
  }
}
