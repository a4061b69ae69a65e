import java.util.ArrayDeque;
import java.util.ArrayList;
import java.util.HashMap;
import java.util.HashSet;
import java.util.List;
import java.util.Map;
import java.util.Set;
import java.util.TreeMap;

/** Long runs of calls, made up by a fixed row of numbers, each answer compared with that of a plain guild told otherwise. */
public final class PlainGuildTest {
  private static final int RUNS = 400;
  private static final int CALLS = 512;

  private static int wrong = 0;
  private static long seed = 20261119L;

  private static int below(int bound) {
    seed = seed * 6364136223846793005L + 1442695040888963407L;
    return (int) ((seed >>> 33) % bound);
  }

  /** Mostly a number that is in range, now and then one beside it or far away. */
  private static int near(int bound) {
    int odd = below(60);
    if (odd == 0) {
      return -1;
    }
    if (odd == 1) {
      return bound;
    }
    if (odd == 2) {
      return below(2) == 0 ? Integer.MIN_VALUE : Integer.MAX_VALUE;
    }
    return below(Math.max(1, bound));
  }

  private record Step(int kind, int place, boolean fromLeft) {
  }

  private static final class PlainModel {
    int author;
    int length;
    List<Step> steps = new ArrayList<>();
    Set<Integer> uses = new HashSet<>();

    /** Places stay where they are on a line without an end; only behind each step are they numbered anew. */
    List<List<Integer>> table(int stepCount) {
      TreeMap<Integer, List<Integer>> line = new TreeMap<>();
      for (int cell = 0; cell < length; cell++) {
        line.put(cell, new ArrayList<>(List.of(cell)));
      }
      for (Step step : steps.subList(0, stepCount)) {
        boolean more = true;
        for (int i = 0; more; i++) {
          int from = step.fromLeft ? step.place - 1 - i : step.place + i;
          int onto = step.fromLeft ? step.place + i : step.place - 1 - i;
          List<Integer> turned = line.remove(from);
          more = turned != null;
          ArrayDeque<Integer> pile = new ArrayDeque<>(more ? turned : List.of());
          while (!pile.isEmpty()) {
            line.computeIfAbsent(onto, place -> new ArrayList<>()).add(pile.removeLast());
          }
        }
        TreeMap<Integer, List<Integer>> anew = new TreeMap<>();
        for (List<Integer> pile : line.values()) {
          anew.put(anew.size(), pile);
        }
        line = anew;
      }
      return new ArrayList<>(line.values());
    }

    int layers(int stepCount) {
      int greatest = 0;
      for (List<Integer> pile : table(stepCount)) {
        greatest = Math.max(greatest, pile.size());
      }
      return greatest;
    }

    boolean isTurned(int cell) {
      boolean turned = false;
      for (int step = 0; step < steps.size(); step++) {
        List<List<Integer>> before = table(step);
        int place = 0;
        while (!before.get(place).contains(cell)) {
          place++;
        }
        turned ^= steps.get(step).fromLeft == (place < steps.get(step).place);
      }
      return turned;
    }

    int kinds() {
      int bits = 0;
      for (Step step : steps) {
        bits |= 1 << step.kind;
      }
      return bits;
    }
  }

  private static final class PlainGuild {
    int[] needs = new int[8];
    int[] known = new int[6];
    List<PlainModel> models = new ArrayList<>();
    int roll;
    int set;

    static void index(boolean right) {
      if (!right) {
        throw new IndexOutOfBoundsException();
      }
    }

    static void argument(boolean right) {
      if (!right) {
        throw new IllegalArgumentException();
      }
    }

    static void state(boolean right) {
      if (!right) {
        throw new IllegalStateException();
      }
    }

    PlainModel model(int model) {
      index(model >= 0 && model < models.size());
      return models.get(model);
    }

    boolean needsKind(int kind, int other) {
      for (int next = 0; next < 8; next++) {
        if ((needs[kind] >> next & 1) != 0 && (next == other || needsKind(next, other))) {
          return true;
        }
      }
      return false;
    }

    boolean usesModel(int model, int other) {
      for (int next : models.get(model).uses) {
        if (next == other || usesModel(next, other)) {
          return true;
        }
      }
      return false;
    }

    int setNeeds(int kind, int bits) {
      index(kind >= 0 && kind < 8);
      argument(bits >= 0 && bits < 256);
      for (int next = 0; next < 8; next++) {
        argument((bits >> next & 1) == 0 || (next != kind && !needsKind(next, kind)));
      }
      int before = needs[kind];
      needs[kind] = bits;
      return before;
    }

    int addModel(int author, int length) {
      index(author >= 0 && author < 10);
      argument(length >= 2 && length <= 32);
      state(models.size() < 8);
      PlainModel added = new PlainModel();
      added.author = author;
      added.length = length;
      models.add(added);
      return models.size() - 1;
    }

    int fold(int model, int kind, int place, boolean fromLeft) {
      PlainModel folded = model(model);
      index(kind >= 0 && kind < 8);
      argument(place >= 1 && place <= places(model) - 1);
      state(folded.steps.size() < 10 && (needs[kind] & folded.kinds()) == needs[kind]);
      folded.steps.add(new Step(kind, place, fromLeft));
      return places(model);
    }

    int unfold(int model) {
      PlainModel unfolded = model(model);
      state(!unfolded.steps.isEmpty());
      return unfolded.steps.remove(unfolded.steps.size() - 1).kind;
    }

    boolean use(int model, int other) {
      model(model);
      model(other);
      argument(model != other && !usesModel(other, model));
      return models.get(model).uses.add(other);
    }

    int setRoll(int length, int bits) {
      argument(length >= 0 && length <= 200);
      argument(bits >= 0 && bits < 1 << 20);
      int before = roll;
      roll = length;
      set = bits;
      return before;
    }

    int teach(int pupil, int kind) {
      index(pupil >= 0 && pupil < 6);
      index(kind >= 0 && kind < 8);
      state((needs[kind] & known[pupil]) == needs[kind]);
      known[pupil] |= 1 << kind;
      return Integer.toBinaryString(known[pupil]).replace("0", "").length();
    }

    int places(int model) {
      PlainModel told = model(model);
      return told.table(told.steps.size()).size();
    }

    int layers(int model) {
      PlainModel told = model(model);
      return told.layers(told.steps.size());
    }

    int cellAt(int model, int place, int height) {
      PlainModel told = model(model);
      List<List<Integer>> table = told.table(told.steps.size());
      index(place >= 0 && place < table.size());
      index(height >= 0 && height < table.get(place).size());
      return table.get(place).get(height);
    }

    int placeOf(int model, int cell) {
      PlainModel told = model(model);
      index(cell >= 0 && cell < told.length);
      List<List<Integer>> table = told.table(told.steps.size());
      int place = 0;
      while (!table.get(place).contains(cell)) {
        place++;
      }
      return place;
    }

    boolean isTurned(int model, int cell) {
      PlainModel told = model(model);
      index(cell >= 0 && cell < told.length);
      return told.isTurned(cell);
    }

    boolean bears(int model, int age) {
      PlainModel told = model(model);
      argument(age >= 0 && age <= 20);
      for (int step = 0; step <= told.steps.size(); step++) {
        if (told.layers(step) > Math.max(1, 40 - 2 * age)) {
          return false;
        }
      }
      return true;
    }

    int kindsOf(int model) {
      int bits = model(model).kinds();
      for (int other : models.get(model).uses) {
        bits |= kindsOf(other);
      }
      return bits;
    }

    boolean mayFold(int pupil, int model) {
      index(pupil >= 0 && pupil < 6);
      int wanted = kindsOf(model);
      return (wanted & known[pupil]) == wanted;
    }

    /** Goes through all that can be known behind each number of lessons. */
    int lessons(int pupil, int model) {
      index(pupil >= 0 && pupil < 6);
      int wanted = kindsOf(model);
      Map<Integer, Integer> behind = new HashMap<>();
      ArrayDeque<Integer> open = new ArrayDeque<>();
      behind.put(known[pupil], 0);
      open.add(known[pupil]);
      while (!open.isEmpty()) {
        int now = open.remove();
        if ((wanted & now) == wanted) {
          return behind.get(now);
        }
        for (int kind = 0; kind < 8; kind++) {
          int then = now | 1 << kind;
          if ((needs[kind] & now) == needs[kind] && !behind.containsKey(then)) {
            behind.put(then, behind.get(now) + 1);
            open.add(then);
          }
        }
      }
      throw new AssertionError("no lessons lead there");
    }

    int credit(int author) {
      index(author >= 0 && author < 10);
      Set<Integer> users = new HashSet<>();
      for (int user = 0; user < models.size(); user++) {
        for (int other = 0; other < models.size(); other++) {
          if (models.get(user).author != author && models.get(other).author == author && usesModel(user, other)) {
            users.add(user);
          }
        }
      }
      return users.size();
    }

    boolean[][] cutsByPieces() {
      boolean[][] cuts = new boolean[201][201];
      cuts[0][0] = true;
      for (int pieces = 1; pieces <= 200; pieces++) {
        for (int length = 0; length <= roll; length++) {
          for (int piece = 1; piece <= 20; piece++) {
            if ((set >> (piece - 1) & 1) != 0 && piece <= length && cuts[pieces - 1][length - piece]) {
              cuts[pieces][length] = true;
            }
          }
        }
      }
      return cuts;
    }

    int fewestPieces() {
      boolean[][] cuts = cutsByPieces();
      for (int pieces = 0; pieces <= 200; pieces++) {
        if (cuts[pieces][roll]) {
          return pieces;
        }
      }
      return -1;
    }

    int leastRest() {
      boolean[][] cuts = cutsByPieces();
      int rest = roll;
      for (int pieces = 0; pieces <= 200; pieces++) {
        for (int length = 0; length <= roll; length++) {
          rest = cuts[pieces][length] ? Math.min(rest, roll - length) : rest;
        }
      }
      return rest;
    }

    int ways() {
      return waysFrom(roll, 20, new HashMap<>());
    }

    private int waysFrom(int length, int greatest, Map<Integer, Integer> told) {
      if (greatest == 0 || length == 0) {
        return length == 0 ? 1 : 0;
      }
      Integer before = told.get(length * 32 + greatest);
      if (before != null) {
        return before;
      }
      int sum = 0;
      boolean isDemanded = (set >> (greatest - 1) & 1) != 0;
      for (int left = length; left >= 0; left = isDemanded ? left - greatest : -1) {
        sum = (sum + waysFrom(left, greatest - 1, told)) % 1000007;
      }
      told.put(length * 32 + greatest, sum);
      return sum;
    }
  }

  private interface Call {
    Object answer();
  }

  private static String said(Call call) {
    try {
      return String.valueOf(call.answer());
    } catch (IndexOutOfBoundsException | IllegalArgumentException | IllegalStateException e) {
      return e.getClass().getSimpleName();
    }
  }

  private static void same(String what, Call want, Call got) {
    String wanted = said(want);
    String answered = said(got);
    if (!answered.equals(wanted)) {
      wrong++;
      System.out.println(what + " answered " + answered + ", due is " + wanted);
    }
  }

  private static int someKinds() {
    return below(40) == 0 ? near(256) : below(256) & below(256) & below(256);
  }

  private static int someLengths() {
    int set = below(1 << 20);
    for (int thin = below(4); thin > 0; thin--) {
      set &= below(1 << 20);
    }
    return below(40) == 0 ? near(1 << 20) : set;
  }

  private static void change(String at, PlainGuild plain, PaperGuild x, int choice) {
    int model = near(plain.models.size());
    int kind = near(8);
    if (choice < 3) {
      int needs = someKinds();
      same(at + "setNeeds(" + kind + ", " + needs + ")", () -> plain.setNeeds(kind, needs), () -> x.setNeeds(kind, needs));
    } else if (choice < 5) {
      int author = near(10) % 4;
      int length = below(10) == 0 ? near(40) : 2 + below(31);
      same(at + "addModel(" + author + ", " + length + ")", () -> plain.addModel(author, length),
          () -> x.addModel(author, length));
    } else if (choice < 16) {
      boolean isModel = model >= 0 && model < plain.models.size();
      int place = near(isModel ? plain.places(model) : 5);
      boolean fromLeft = below(2) == 0;
      same(at + "fold(" + model + ", " + kind + ", " + place + ", " + fromLeft + ")",
          () -> plain.fold(model, kind, place, fromLeft), () -> x.fold(model, kind, place, fromLeft));
    } else if (choice < 19) {
      same(at + "unfold(" + model + ")", () -> plain.unfold(model), () -> x.unfold(model));
    } else if (choice < 21) {
      int other = near(plain.models.size());
      same(at + "use(" + model + ", " + other + ")", () -> plain.use(model, other), () -> x.use(model, other));
    } else if (choice < 23) {
      int length = near(201);
      int set = someLengths();
      same(at + "setRoll(" + length + ", " + set + ")", () -> plain.setRoll(length, set), () -> x.setRoll(length, set));
    } else {
      int pupil = near(6);
      same(at + "teach(" + pupil + ", " + kind + ")", () -> plain.teach(pupil, kind), () -> x.teach(pupil, kind));
    }
  }

  private static void ask(String at, PlainGuild plain, PaperGuild x) {
    int model = near(plain.models.size());
    int cell = near(33);
    int place = near(12);
    int height = near(6);
    int age = near(21);
    int pupil = near(6);
    int author = near(10);
    switch (below(15)) {
      case 0 -> same(at + "models()", () -> plain.models.size(), () -> x.models());
      case 1 -> same(at + "steps(" + model + ")", () -> plain.model(model).steps.size(), () -> x.steps(model));
      case 2 -> same(at + "places(" + model + ")", () -> plain.places(model), () -> x.places(model));
      case 3 -> same(at + "layers(" + model + ")", () -> plain.layers(model), () -> x.layers(model));
      case 4 -> same(at + "cellAt(" + model + ", " + place + ", " + height + ")",
          () -> plain.cellAt(model, place, height), () -> x.cellAt(model, place, height));
      case 5 -> same(at + "placeOf(" + model + ", " + cell + ")",
          () -> plain.placeOf(model, cell), () -> x.placeOf(model, cell));
      case 6 -> same(at + "isTurned(" + model + ", " + cell + ")",
          () -> plain.isTurned(model, cell), () -> x.isTurned(model, cell));
      case 7 -> same(at + "layersByFollowing(" + model + ")", () -> plain.layers(model), () -> x.layersByFollowing(model));
      case 8 -> same(at + "bears(" + model + ", " + age + ")", () -> plain.bears(model, age), () -> x.bears(model, age));
      case 9 -> same(at + "kindsOf(" + model + ")", () -> plain.kindsOf(model), () -> x.kindsOf(model));
      case 10 -> same(at + "mayFold(" + pupil + ", " + model + ")",
          () -> plain.mayFold(pupil, model), () -> x.mayFold(pupil, model));
      case 11 -> same(at + "lessons(" + pupil + ", " + model + ")",
          () -> plain.lessons(pupil, model), () -> x.lessons(pupil, model));
      case 12 -> same(at + "credit(" + author + ")", () -> plain.credit(author), () -> x.credit(author));
      case 13 -> {
        same(at + "fewestPieces()", () -> plain.fewestPieces(), () -> x.fewestPieces());
        same(at + "leastRest()", () -> plain.leastRest(), () -> x.leastRest());
      }
      default -> same(at + "ways()", () -> plain.ways(), () -> x.ways());
    }
  }

  public static void main(String[] args) {
    for (int run = 0; run < RUNS && wrong < 20; run++) {
      PlainGuild plain = new PlainGuild();
      PaperGuild x = new PaperGuild();
      for (int call = 0; call < CALLS; call++) {
        String at = "run " + run + ", call " + call + ": ";
        if (below(5) < 2) {
          change(at, plain, x, below(25));
        } else {
          ask(at, plain, x);
        }
      }
    }
    System.out.println(wrong == 0 ? "all answers are those of the plain guild" : wrong + " answers are not");
    if (wrong != 0) {
      System.exit(1);
    }
  }
}
