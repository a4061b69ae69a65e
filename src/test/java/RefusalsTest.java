/** The three sentences of the document's terms about exceptions, for each call that can throw. */
public final class RefusalsTest extends Checks {
  /** Beside the nearest numbers that there are not, those that would meet a right one again if bits wrapped round. */
  private static final int[] FAR = {LOW, LOW + 1, -256, -33, -32, -31, -2, -1, 32, 33, 64, 256, 1 << 30, HIGH - 1, HIGH};

  private static final String[] NAMES_OF_A_MODEL = {
    "4, fold", "5, unfold", "6, use", "6, use by another", "6, use by itself", "10, steps", "11, places", "12, layers",
    "13, cellAt", "14, placeOf", "15, isTurned", "16, layersByFollowing", "17, bears", "18, kindsOf",
    "19, mayFold", "20, lessons",
  };
  private static final CallOf[] OF_A_MODEL = {
    (x, n) -> x.fold(n, 0, 1, true), (x, n) -> x.unfold(n), (x, n) -> x.use(n, 0), (x, n) -> x.use(0, n),
    (x, n) -> x.use(n, n), (x, n) -> x.steps(n), (x, n) -> x.places(n), (x, n) -> x.layers(n),
    (x, n) -> x.cellAt(n, 0, 0), (x, n) -> x.placeOf(n, 0), (x, n) -> x.isTurned(n, 0),
    (x, n) -> x.layersByFollowing(n), (x, n) -> x.bears(n, 0), (x, n) -> x.kindsOf(n),
    (x, n) -> x.mayFold(0, n), (x, n) -> x.lessons(0, n),
  };
  private static final String[] NAMES_OF_A_KIND = {"2, setNeeds", "4, fold", "8, teach"};
  private static final CallOf[] OF_A_KIND = {
    (x, n) -> x.setNeeds(n, 0), (x, n) -> x.fold(0, n, 1, true), (x, n) -> x.teach(0, n),
  };
  private static final String[] NAMES_OF_AN_AUTHOR = {"3, addModel", "21, credit"};
  private static final CallOf[] OF_AN_AUTHOR = {
    (x, n) -> x.addModel(n, 2), (x, n) -> x.credit(n),
  };
  private static final String[] NAMES_OF_A_PUPIL = {"8, teach", "19, mayFold", "20, lessons"};
  private static final CallOf[] OF_A_PUPIL = {
    (x, n) -> x.teach(n, 0), (x, n) -> x.mayFold(n, 0), (x, n) -> x.lessons(n, 0),
  };

  private interface CallOf {
    Object answer(PaperGuild guild, int number);
  }

  /** A guild in which each call has something to change and something to keep. */
  private static PaperGuild furnished() {
    PaperGuild x = new PaperGuild();
    x.addModel(0, 6);
    x.addModel(1, 5);
    x.addModel(0, 4);
    x.setNeeds(1, bits(0));
    x.setNeeds(2, bits(1, 5));
    x.fold(0, 0, 2, true);
    x.fold(0, 1, 3, false);
    x.fold(1, 5, 1, true);
    x.use(1, 0);
    x.use(2, 1);
    x.setRoll(30, lengths(7, 10));
    x.teach(0, 0);
    x.teach(0, 1);
    x.teach(3, 5);
    return x;
  }

  private static PaperGuild withEightModels() {
    PaperGuild x = furnished();
    while (x.models() < 8) {
      x.addModel(9, 2);
    }
    return x;
  }

  private static PaperGuild withTenSteps() {
    PaperGuild x = furnished();
    x.addModel(3, 32);
    for (int step = 0; step < 10; step++) {
      x.fold(3, 3, 1, true);
    }
    return x;
  }

  /** All that can be asked of a guild, and then all that only changes tell; 512 calls suffice. */
  private static String state(PaperGuild x) {
    StringBuilder text = new StringBuilder();
    int models = x.models();
    text.append(models).append(" models;");
    for (int model = 0; model < models; model++) {
      text.append(table(x, model)).append(' ').append(x.steps(model)).append(' ').append(x.kindsOf(model));
      text.append(' ').append(x.placeOf(model, 0)).append(x.isTurned(model, 1)).append(';');
      for (int pupil = 0; pupil < 6; pupil += 3) {
        text.append(x.lessons(pupil, model)).append(' ');
      }
    }
    for (int author = 0; author < 10; author++) {
      text.append(x.credit(author)).append(' ');
    }
    text.append(x.fewestPieces()).append(' ').append(x.ways()).append(' ').append(x.leastRest()).append(';');
    text.append(x.setRoll(0, 0)).append(';');
    for (int kind = 0; kind < 8; kind++) {
      text.append(x.setNeeds(kind, 0)).append(' ');
    }
    for (int pupil = 0; pupil < 6; pupil++) {
      text.append(x.teach(pupil, 7)).append(' ');
    }
    for (int model = 0; model < models; model++) {
      for (int other = 0; other < models; other++) {
        int m = model;
        int o = other;
        text.append(said(() -> x.use(m, o))).append(' ');
      }
      while (x.steps(model) > 0) {
        text.append(x.unfold(model)).append(' ');
      }
    }
    return text.append(said(() -> x.addModel(0, 2))).toString();
  }

  private static void refused(String what, PaperGuild untouched, PaperGuild x, String want, Change change) {
    due(what, want, () -> change.answer(x));
    due(what + ", and what stands behind it", state(untouched), () -> state(x));
  }

  private static void refused(String what, String want, Change change) {
    refused(what, furnished(), furnished(), want, change);
  }

  private static void setNeedsChangesNothing() {
    refused("setNeeds(8, 1)", INDEX, x -> x.setNeeds(8, 1));
    refused("setNeeds(-1, 1)", INDEX, x -> x.setNeeds(-1, 1));
    refused("setNeeds(2, 256)", ARGUMENT, x -> x.setNeeds(2, 256));
    refused("setNeeds(2, -1)", ARGUMENT, x -> x.setNeeds(2, -1));
    refused("setNeeds(0, 2), a round of two", ARGUMENT, x -> x.setNeeds(0, bits(1)));
    refused("setNeeds(0, 4), a round of three", ARGUMENT, x -> x.setNeeds(0, bits(2)));
    refused("setNeeds(2, 4), itself", ARGUMENT, x -> x.setNeeds(2, bits(2)));
    refused("setNeeds(5, 12), a new need before the round", ARGUMENT, x -> x.setNeeds(5, bits(2, 3)));
  }

  private static void addModelChangesNothing() {
    refused("addModel(10, 2)", INDEX, x -> x.addModel(10, 2));
    refused("addModel(-1, 2)", INDEX, x -> x.addModel(-1, 2));
    refused("addModel(0, 1)", ARGUMENT, x -> x.addModel(0, 1));
    refused("addModel(0, 33)", ARGUMENT, x -> x.addModel(0, 33));
    refused("a ninth", withEightModels(), withEightModels(), STATE, x -> x.addModel(0, 2));
  }

  private static void foldChangesNothing() {
    refused("fold(3, 0, 1, true)", INDEX, x -> x.fold(3, 0, 1, true));
    refused("fold(0, 8, 1, true)", INDEX, x -> x.fold(0, 8, 1, true));
    refused("fold(0, 0, 0, true)", ARGUMENT, x -> x.fold(0, 0, 0, true));
    refused("fold(0, 0, 3, false)", ARGUMENT, x -> x.fold(0, 0, 3, false));
    refused("fold(0, 2, 1, true), a kind is missing", STATE, x -> x.fold(0, 2, 1, true));
    refused("fold(2, 1, 1, false), a kind is missing", STATE, x -> x.fold(2, 1, 1, false));
    refused("an eleventh step", withTenSteps(), withTenSteps(), STATE, x -> x.fold(3, 3, 1, true));
  }

  private static void otherChangesNothing() {
    refused("unfold(3)", INDEX, x -> x.unfold(3));
    refused("unfold(-1)", INDEX, x -> x.unfold(-1));
    refused("unfold(2), no steps", STATE, x -> x.unfold(2));
    refused("use(3, 0)", INDEX, x -> x.use(3, 0));
    refused("use(0, 3)", INDEX, x -> x.use(0, 3));
    refused("use(0, 1), a round of two", ARGUMENT, x -> x.use(0, 1));
    refused("use(0, 2), a round of three", ARGUMENT, x -> x.use(0, 2));
    refused("use(2, 2), itself", ARGUMENT, x -> x.use(2, 2));
    refused("setRoll(201, 1)", ARGUMENT, x -> x.setRoll(201, 1));
    refused("setRoll(-1, 1)", ARGUMENT, x -> x.setRoll(-1, 1));
    refused("setRoll(9, -1)", ARGUMENT, x -> x.setRoll(9, -1));
    refused("setRoll(9, 1048576)", ARGUMENT, x -> x.setRoll(9, 1048576));
    refused("teach(6, 0)", INDEX, x -> x.teach(6, 0));
    refused("teach(1, 8)", INDEX, x -> x.teach(1, 8));
    refused("teach(1, 1), a kind is not known", STATE, x -> x.teach(1, 1));
    refused("teach(3, 2), one of two kinds is not known", STATE, x -> x.teach(3, 2));
  }

  private static void askingChangesNothing() {
    refused("cellAt(0, 3, 0)", INDEX, x -> x.cellAt(0, 3, 0));
    refused("cellAt(0, 0, 9)", INDEX, x -> x.cellAt(0, 0, 9));
    refused("placeOf(0, 6)", INDEX, x -> x.placeOf(0, 6));
    refused("isTurned(0, 6)", INDEX, x -> x.isTurned(0, 6));
    refused("bears(0, 21)", ARGUMENT, x -> x.bears(0, 21));
    refused("mayFold(6, 0)", INDEX, x -> x.mayFold(6, 0));
    refused("lessons(6, 0)", INDEX, x -> x.lessons(6, 0));
    refused("credit(10)", INDEX, x -> x.credit(10));
    refused("kindsOf(3)", INDEX, x -> x.kindsOf(3));
    refused("all that throws nothing", "true", x -> {
      x.lessons(1, 2);
      x.mayFold(1, 2);
      x.kindsOf(2);
      x.credit(0);
      x.layersByFollowing(0);
      x.bears(0, 20);
      x.ways();
      x.leastRest();
      return x.fewestPieces() == 3;
    });
  }

  private static void first(String what, PaperGuild x, String want, Change change) {
    due(what, want, () -> change.answer(x));
  }

  private static void firstNamedOfKindsAndModels() {
    PaperGuild x = furnished();
    first("setNeeds: no such kind, needs 256", x, INDEX, g -> g.setNeeds(8, 256));
    first("setNeeds: no such kind, needs -1", x, INDEX, g -> g.setNeeds(-1, -1));
    first("setNeeds: needs 256 with a round", x, ARGUMENT, g -> g.setNeeds(0, 256 + bits(1)));
    first("addModel: no such author, length 1", x, INDEX, g -> g.addModel(10, 1));
    first("addModel: no such author, length 33", x, INDEX, g -> g.addModel(-1, 33));
    PaperGuild full = withEightModels();
    first("addModel: length 1, there are 8", full, ARGUMENT, g -> g.addModel(9, 1));
    first("addModel: length 33, there are 8", full, ARGUMENT, g -> g.addModel(9, 33));
    first("addModel: no such author, there are 8", full, INDEX, g -> g.addModel(10, 2));
    first("addModel: all three", full, INDEX, g -> g.addModel(10, 1));
    first("use: no such model twice, which is itself too", x, INDEX, g -> g.use(3, 3));
    first("unfold: no such model, which has no steps either", x, INDEX, g -> g.unfold(3));
    first("bears: no such model, age 21", x, INDEX, g -> g.bears(3, 21));
    first("bears: no such model, age -1", x, INDEX, g -> g.bears(-1, -1));
    first("setRoll: length and set", x, ARGUMENT, g -> g.setRoll(201, -1));
    first("teach: no such pupil, who knows no kinds", x, INDEX, g -> g.teach(6, 2));
    first("teach: no such pupil and kind", x, INDEX, g -> g.teach(6, 8));
  }

  private static void firstNamedOfFold() {
    PaperGuild x = withTenSteps();
    first("no such model, place 0", x, INDEX, g -> g.fold(4, 0, 0, true));
    first("no such model and kind", x, INDEX, g -> g.fold(4, 8, 1, true));
    first("no such model, a kind is missing", x, INDEX, g -> g.fold(4, 2, 1, true));
    first("no such kind, place 0", x, INDEX, g -> g.fold(0, 8, 0, true));
    first("no such kind, ten steps", x, INDEX, g -> g.fold(3, -1, 1, true));
    first("no such kind, place 22, ten steps", x, INDEX, g -> g.fold(3, 8, 22, true));
    first("place 0, ten steps", x, ARGUMENT, g -> g.fold(3, 3, 0, true));
    first("place 22 of 22, ten steps", x, ARGUMENT, g -> g.fold(3, 3, 22, true));
    first("place 0, a kind is missing", x, ARGUMENT, g -> g.fold(0, 2, 0, true));
    first("place 3 of 3, a kind is missing", x, ARGUMENT, g -> g.fold(0, 2, 3, false));
    first("ten steps, and a kind is missing", x, STATE, g -> g.fold(3, 2, 1, true));
    PaperGuild narrow = guildWith(2);
    narrow.fold(0, 0, 1, true);
    narrow.setNeeds(1, bits(2));
    first("one place is left, and a kind is missing", narrow, ARGUMENT, g -> g.fold(0, 1, 1, true));
  }

  private static void noSuch(CallOf call, PaperGuild x, int firstAbove) {
    for (int far : FAR) {
      due("number " + far, INDEX, () -> call.answer(x, far));
    }
    due("number " + firstAbove, INDEX, () -> call.answer(x, firstAbove));
  }

  private static void noSuchModel(CallOf call) {
    noSuch(call, new PaperGuild(), 0);
    noSuch(call, guildWith(4), 1);
    noSuch(call, furnished(), 3);
    noSuch(call, withEightModels(), 8);
  }

  private static void noSuchOneInEachCall() {
    String words = ": IndexOutOfBoundsException if there is no such ";
    for (int call = 0; call < OF_A_MODEL.length; call++) {
      CallOf asked = OF_A_MODEL[call];
      test(NAMES_OF_A_MODEL[call] + words + "model", () -> noSuchModel(asked));
    }
    for (int call = 0; call < OF_A_KIND.length; call++) {
      CallOf asked = OF_A_KIND[call];
      test(NAMES_OF_A_KIND[call] + words + "kind", () -> noSuch(asked, furnished(), 8));
    }
    for (int call = 0; call < OF_AN_AUTHOR.length; call++) {
      CallOf asked = OF_AN_AUTHOR[call];
      test(NAMES_OF_AN_AUTHOR[call] + words + "author", () -> noSuch(asked, furnished(), 10));
    }
    for (int call = 0; call < OF_A_PUPIL.length; call++) {
      CallOf asked = OF_A_PUPIL[call];
      test(NAMES_OF_A_PUPIL[call] + words + "pupil", () -> noSuch(asked, furnished(), 6));
    }
  }

  private static void lastThatThereIs() {
    PaperGuild x = withEightModels();
    due("steps of model 7", 0, () -> x.steps(7));
    due("places of model 7", 2, () -> x.places(7));
    due("layers of model 7", 1, () -> x.layers(7));
    due("layersByFollowing of model 7", 1, () -> x.layersByFollowing(7));
    due("cellAt in model 7", 1, () -> x.cellAt(7, 1, 0));
    due("placeOf in model 7", 1, () -> x.placeOf(7, 1));
    due("isTurned in model 7", false, () -> x.isTurned(7, 1));
    due("bears of model 7", true, () -> x.bears(7, 20));
    due("model 7 uses model 0", true, () -> x.use(7, 0));
    due("model 6 uses model 7", true, () -> x.use(6, 7));
    due("kindsOf model 6", bits(0, 1), () -> x.kindsOf(6));
    due("fold of kind 7 in model 7", 1, () -> x.fold(7, 7, 1, false));
    due("kind 7 counts for model 6", bits(0, 1, 7), () -> x.kindsOf(6));
    due("pupil 5 lacks it", 3, () -> x.lessons(5, 6));
    due("pupil 5 is taught kind 7", 1, () -> x.teach(5, 7));
    due("pupil 5 lacks it no more", 2, () -> x.lessons(5, 6));
    due("pupil 5 may not fold it", false, () -> x.mayFold(5, 6));
    due("unfold of model 7", 7, () -> x.unfold(7));
    due("setNeeds of kind 7", 0, () -> x.setNeeds(7, 0));
    due("credit of author 9", 0, () -> x.credit(9));
    due("credit of author 0", 3, () -> x.credit(0));
  }

  public static void main(String[] args) {
    test("A call that throws changes nothing: setNeeds", RefusalsTest::setNeedsChangesNothing);
    test("A call that throws changes nothing: addModel", RefusalsTest::addModelChangesNothing);
    test("A call that throws changes nothing: fold", RefusalsTest::foldChangesNothing);
    test("A call that throws changes nothing: unfold, use, setRoll, teach", RefusalsTest::otherChangesNothing);
    test("Nothing from here on changes anything", RefusalsTest::askingChangesNothing);
    test("The one that is named first is thrown", RefusalsTest::firstNamedOfKindsAndModels);
    test("The one that is named first is thrown: fold", RefusalsTest::firstNamedOfFold);
    noSuchOneInEachCall();
    test("There is such a one: the last", RefusalsTest::lastThatThereIs);
    finish("what is refused is refused as it is due");
  }
}
