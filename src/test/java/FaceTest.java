import java.lang.reflect.Constructor;
import java.lang.reflect.Field;
import java.lang.reflect.Method;
import java.lang.reflect.Modifier;
import java.nio.file.Files;
import java.nio.file.Path;
import java.util.Set;
import java.util.TreeSet;

/** The public face as the document writes it, and no other member that can be seen; rules 1, 5, 6 and 11 of LANGUAGE.md. */
public final class FaceTest {
  private static final String[] FACE = {
    "int box(int,int,int,int,int)", "int body(int,int)", "int where(int,int)", "int bay(int,int,int)", "int plugs(int,int,int)",
    "int apart(int,int,int)", "int stack(int,int,int)", "int share(int)", "int rail(int,int)", "int crane(int,int,int)",
    "int wind(int)", "int engine(int,int)", "int look(int,int)", "int may(int,int)", "int go(int,int)", "int take(int,int)",
    "int lift(int,int)", "int set(int,int)", "int drop(int)", "int load(int)", "int fetch(int,int,int,int)", "int serve(int)",
    "int ship(int,int,int,int)", "int limit(int,int,int)", "int route(int,int)", "int plan(int,int,int,int,int)",
    "int sum(int,int)", "int mean(int)", "int stable(int)", "int broke(int)", "int want(int)", "int forget()", "int least(int)",
    "int row(int,int)", "int alter(int,int,int)", "int holds()", "int task()", "int op(int,int,int,int)", "int run(int)",
    "long number()", "int ran(int)", "int shelf(int,int)", "int status()", "int found(int)", "int trace(int)", "int undo()",
    "long back(int)", "int count(int)", "int clear()"};
  private static final String[] CONSTANTS = {"UNKNOWN -1", "OUTSIDE -2", "STATE -3", "FULL -4", "NONE -9", "RULE -40", "FINDING -60"};

  public static void main(String[] args) throws Exception {
    members();
    names();
    words();
    Check.end();
  }

  private static void members() throws Exception {
    Set<String> methods = new TreeSet<>();
    for (Method m : BoxYard.class.getDeclaredMethods()) {
      if (Modifier.isPrivate(m.getModifiers())) continue;
      Check.that(m + " is public and not static", Modifier.isPublic(m.getModifiers()) && !Modifier.isStatic(m.getModifiers()));
      StringBuilder text = new StringBuilder(m.getReturnType() + " " + m.getName() + "(");
      for (Class<?> p : m.getParameterTypes()) text.append(text.charAt(text.length() - 1) == '(' ? "" : ",").append(p);
      methods.add(text.append(")").toString());
    }
    Check.that("the methods are those of the document: " + methods, methods.equals(new TreeSet<>(Set.of(FACE))));
    Set<String> constants = new TreeSet<>();
    for (Field f : BoxYard.class.getDeclaredFields()) {
      int seen = f.getModifiers();
      if (Modifier.isPrivate(seen)) continue;
      Check.that(f + " is public, static and final", Modifier.isPublic(seen) && Modifier.isStatic(seen) && Modifier.isFinal(seen));
      constants.add(f.getName() + " " + f.getInt(null));
    }
    Check.that("the constants are those of the document: " + constants, constants.equals(new TreeSet<>(Set.of(CONSTANTS))));
    Constructor<?>[] made = BoxYard.class.getDeclaredConstructors();
    Check.that("one constructor", made.length == 1 && Modifier.isPublic(made[0].getModifiers()) && made[0].getParameterCount() == 0);
    Check.that("public and final", Modifier.isFinal(BoxYard.class.getModifiers()) && Modifier.isPublic(BoxYard.class.getModifiers()));
  }

  private static void names() {
    Set<String> faces = new TreeSet<>();
    for (String f : FACE) faces.add(f.substring(f.indexOf(' ') + 1, f.indexOf('(')));
    Set<Class<?>> all = new java.util.LinkedHashSet<>(java.util.List.of(BoxYard.class.getDeclaredClasses()));
    all.add(BoxYard.class);
    for (Class<?> c : all) {
      Check.that(c + " is static, and not public", c == BoxYard.class || (Modifier.isStatic(c.getModifiers()) && !Modifier.isPublic(c.getModifiers())));
      for (Method m : c.getDeclaredMethods()) {
        Check.that(m + " has no name of the face", !Modifier.isPrivate(m.getModifiers()) || !faces.contains(m.getName()));
        Check.that(m + " takes at most seven", m.getParameterCount() <= 7);
      }
      for (Field f : c.getDeclaredFields()) Check.that(f + " is no static state", !Modifier.isStatic(f.getModifiers()) || Modifier.isFinal(f.getModifiers()));
    }
  }

  private static void words() throws Exception {
    String text = Files.readString(Path.of("src/main/java/BoxYard.java"));
    String bare = text.replaceAll("(?s)/\\*.*?\\*/", " ").replaceAll("//[^\n]*", " ");
    String[] barred = {"throw", "try", "catch", "synchronized", "assert", "package", "protected", "->", "::", "Exact",
      "equals", "hashCode", "toString", "System.nanoTime", "Random"};
    for (String word : barred) {
      String find = Character.isLetter(word.charAt(0)) ? "\\b" + word + "\\b" : word;
      Check.that("no " + word + " in the class", !java.util.regex.Pattern.compile(find).matcher(bare).find());
    }
    Check.that("one import alone", bare.split("\\bimport\\b").length == 2 && bare.contains("import java.util.Arrays;"));
    Check.that("characters 0 to 255", text.chars().allMatch(c -> c < 256));
  }
}
