import java.io.IOException;
import java.lang.reflect.Constructor;
import java.lang.reflect.Field;
import java.lang.reflect.Method;
import java.lang.reflect.Modifier;
import java.nio.file.Files;
import java.nio.file.Path;
import java.util.Arrays;
import java.util.TreeSet;

/** The public face as the document has it, and what the language rules say of the source. */
public final class FaceTest {
  private static final String I = "IndexOutOfBoundsException";
  private static final String A = "IllegalArgumentException";
  private static final String S = "IllegalStateException";

  private static final String[] FACE = {
    "int constructor(int)" + A + S,
    "int typeVariable(int)" + A + S,
    "int type(int,int,int)" + A + I + S,
    "int typeSymbol(int,int)" + I,
    "int declare(int)" + I + S,
    "int free(int,int)" + I + A + S,
    "int constant(int,int)" + I + A + S,
    "int apply(int,int)" + I + A + S,
    "int abstraction(int,int)" + I + A + S,
    "int part(int,int)" + I + A + S,
    "int open(int,int)" + I + A + S,
    "int put(int,int,int)" + I + A + S,
    "int retype(int,int,int)" + I + A + S,
    "int typeOf(int)" + I + S,
    "int symbol(int,int)" + I,
    "int measure(int,int)" + I + A,
    "boolean same(int,int)" + I,
    "boolean sameType(int,int)" + I,
    "boolean occurs(int,int)" + I + A,
    "int match(int,int)" + I,
    "int matched(int)" + I + S,
  };

  public static void main(String[] args) throws IOException {
    face();
    inside();
    source(Files.readString(Path.of("src/main/java/TermLoom.java")));
    Checks.end("FaceTest");
  }

  private static void face() {
    TreeSet<String> got = new TreeSet<>();
    TreeSet<String> names = new TreeSet<>();
    for (Method method : TermLoom.class.getDeclaredMethods()) {
      if (Modifier.isPublic(method.getModifiers())) {
        got.add(text(method));
        names.add(method.getName());
      }
    }
    Checks.due("public methods", got.toString(), new TreeSet<>(Arrays.asList(FACE)).toString());
    for (Method method : TermLoom.class.getDeclaredMethods()) {
      int modifiers = method.getModifiers();
      boolean hidden = Modifier.isPrivate(modifiers) && !names.contains(method.getName());
      holds(method + " is public, or private with another name", Modifier.isPublic(modifiers) || hidden);
    }
    for (Field field : TermLoom.class.getDeclaredFields()) {
      holds(field + " is private", Modifier.isPrivate(field.getModifiers()));
    }
    Constructor<?>[] constructors = TermLoom.class.getDeclaredConstructors();
    holds("one constructor", constructors.length == 1);
    holds("it is public", Modifier.isPublic(constructors[0].getModifiers()));
    holds("it takes nothing", constructors[0].getParameterCount() == 0);
    int modifiers = TermLoom.class.getModifiers();
    holds("public and final", Modifier.isPublic(modifiers) && Modifier.isFinal(modifiers));
  }

  private static String text(Method method) {
    StringBuilder text = new StringBuilder(method.getReturnType().getName());
    text.append(' ').append(method.getName()).append('(');
    for (int i = 0; i < method.getParameterCount(); i++) {
      text.append(i == 0 ? "" : ",").append(method.getParameterTypes()[i].getName());
    }
    text.append(')');
    for (Class<?> thrown : method.getExceptionTypes()) {
      text.append(thrown.getSimpleName());
    }
    return text.toString();
  }

  private static void inside() {
    Class<?>[] classes = TermLoom.class.getDeclaredClasses();
    holds("at most twelve classes", classes.length < 12);
    for (Class<?> inner : classes) {
      int modifiers = inner.getModifiers();
      holds(inner + " is static", Modifier.isStatic(modifiers));
      holds(inner + " is not public", !Modifier.isPublic(modifiers) && !Modifier.isProtected(modifiers));
      fields(inner);
    }
    fields(TermLoom.class);
  }

  private static void fields(Class<?> owner) {
    int own = 0;
    for (Field field : owner.getDeclaredFields()) {
      boolean isStatic = Modifier.isStatic(field.getModifiers());
      holds(field + " is final if it is static", !isStatic || Modifier.isFinal(field.getModifiers()));
      own += isStatic ? 0 : 1;
    }
    holds(owner + " has few fields", own <= 20);
  }

  private static void source(String text) {
    String code = text.replaceAll("(?s)/\\*.*?\\*/", " ").replaceAll("//[^\n]*", " ");
    String[] banned = {
      "\\btry\\b", "\\bcatch\\b", "\\bfinally\\b", "\\bpackage\\b", "\\bsynchronized\\b", "\\bassert\\b",
      "->", "::", "\\bRandom\\b", "\\bThread\\b", "\\bhashCode\\b", "currentTimeMillis", "nanoTime",
      "Exact\\b", "import (?!java\\.util\\.Arrays;)", "\"\\s*\\+", "\\+\\s*\"",
    };
    for (String pattern : banned) {
      holds("the source has no " + pattern, !java.util.regex.Pattern.compile(pattern).matcher(code).find());
    }
    holds("characters 0 to 255 alone", text.chars().allMatch(c -> c < 256));
  }

  private static void holds(String what, boolean holds) {
    Checks.due(what, holds ? "yes" : "no", "yes");
  }
}
