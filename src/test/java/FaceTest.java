import java.lang.reflect.Constructor;
import java.lang.reflect.Field;
import java.lang.reflect.Method;
import java.lang.reflect.Modifier;
import java.util.ArrayList;
import java.util.HashSet;
import java.util.List;
import java.util.Set;
import java.util.TreeSet;

/** The class shows the document's face, and no member beside it (LANGUAGE.md, rule 1). */
public final class FaceTest {
  private static final String INDEX = "IndexOutOfBoundsException";
  private static final String ARGUMENT = "IllegalArgumentException";
  private static final String STATE = "IllegalStateException";

  private static final String[] FACE = {
    "int setNeeds(int,int) " + INDEX + " " + ARGUMENT,
    "int addModel(int,int) " + INDEX + " " + ARGUMENT + " " + STATE,
    "int fold(int,int,int,boolean) " + INDEX + " " + ARGUMENT + " " + STATE,
    "int unfold(int) " + INDEX + " " + STATE,
    "boolean use(int,int) " + INDEX + " " + ARGUMENT,
    "int setRoll(int,int) " + ARGUMENT,
    "int teach(int,int) " + INDEX + " " + STATE,
    "int models()",
    "int steps(int) " + INDEX,
    "int places(int) " + INDEX,
    "int layers(int) " + INDEX,
    "int cellAt(int,int,int) " + INDEX,
    "int placeOf(int,int) " + INDEX,
    "boolean isTurned(int,int) " + INDEX,
    "int layersByFollowing(int) " + INDEX,
    "boolean bears(int,int) " + INDEX + " " + ARGUMENT,
    "int kindsOf(int) " + INDEX,
    "boolean mayFold(int,int) " + INDEX,
    "int lessons(int,int) " + INDEX,
    "int credit(int) " + INDEX,
    "int fewestPieces()",
    "int ways()",
    "int leastRest()",
  };

  private static String told(Method method) {
    List<String> parameters = new ArrayList<>();
    for (Class<?> parameter : method.getParameterTypes()) {
      parameters.add(parameter.getSimpleName());
    }
    StringBuilder text = new StringBuilder(method.getReturnType().getSimpleName());
    text.append(' ').append(method.getName()).append('(').append(String.join(",", parameters)).append(')');
    for (Class<?> thrown : method.getExceptionTypes()) {
      text.append(' ').append(thrown.getSimpleName());
    }
    return text.toString();
  }

  private static List<String> faults() {
    List<String> faults = new ArrayList<>();
    Class<?> guild = PaperGuild.class;
    if (!Modifier.isPublic(guild.getModifiers()) || !Modifier.isFinal(guild.getModifiers())) {
      faults.add("the class is not public and final");
    }
    Set<String> shown = new TreeSet<>();
    Set<String> shownNames = new HashSet<>();
    for (Method method : guild.getDeclaredMethods()) {
      if (!Modifier.isPrivate(method.getModifiers())) {
        shown.add(told(method));
        shownNames.add(method.getName());
      }
    }
    if (!shown.equals(new TreeSet<>(List.of(FACE)))) {
      faults.add("the methods are " + shown);
    }
    for (Class<?> place : guild.getDeclaredClasses()) {
      if (Modifier.isPublic(place.getModifiers()) || Modifier.isProtected(place.getModifiers())) {
        faults.add(place + " is shown");
      }
      addNamesakes(place, shownNames, faults);
    }
    addNamesakes(guild, shownNames, faults);
    for (Field field : guild.getDeclaredFields()) {
      if (!Modifier.isPrivate(field.getModifiers())) {
        faults.add(field + " is shown");
      }
      if (Modifier.isStatic(field.getModifiers()) && !Modifier.isFinal(field.getModifiers())) {
        faults.add(field + " is static and can change");
      }
    }
    Constructor<?>[] constructors = guild.getDeclaredConstructors();
    if (constructors.length != 1 || constructors[0].getParameterCount() != 0
        || !Modifier.isPublic(constructors[0].getModifiers())) {
      faults.add("the constructors are not those of the document");
    }
    return faults;
  }

  private static void addNamesakes(Class<?> place, Set<String> shownNames, List<String> faults) {
    for (Method method : place.getDeclaredMethods()) {
      boolean isShown = place == PaperGuild.class && !Modifier.isPrivate(method.getModifiers());
      if (!isShown && shownNames.contains(method.getName())) {
        faults.add(method + " bears the name of a public method");
      }
    }
  }

  public static void main(String[] args) {
    List<String> faults = faults();
    for (String fault : faults) {
      System.out.println(fault);
    }
    System.out.println(faults.isEmpty() ? "the face is that of the document" : faults.size() + " faults");
    if (!faults.isEmpty()) {
      System.exit(1);
    }
  }
}
