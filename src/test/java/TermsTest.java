/** A test of its own for each sentence of "What it is" and "Terms" that names a boundary case. */
public final class TermsTest extends Checks {
  /** The greatest age at which paper bears so many layers, from one layer on. */
  private static final int[] OLDEST = {
    20, 19, 18, 18, 17, 17, 16, 16, 15, 15, 14, 14, 13, 13, 12, 12,
    11, 11, 10, 10, 9, 9, 8, 8, 7, 7, 6, 6, 5, 5, 4, 4,
  };

  /** Folds a strip of so many cells onto one place, at which all of them lie then. */
  private static PaperGuild onOnePlace(int cells) {
    PaperGuild x = guildWith(cells);
    while (x.places(0) > 1) {
      x.fold(0, 0, (x.places(0) + 1) / 2, x.places(0) % 2 == 0);
    }
    return x;
  }

  private static void fiveHundredAndTwelveCalls() {
    PaperGuild x = guildWith(32);
    for (int call = 1; call < 507; call += 2) {
      x.fold(0, call % 8, 1 + call % 31, call % 4 < 2);
      x.unfold(0);
    }
    due("call 508", 16, () -> x.fold(0, 7, 16, true));
    due("call 509", 8, () -> x.fold(0, 6, 8, false));
    due("call 510", 4, () -> x.layers(0));
    due("call 511", 3, () -> x.placeOf(0, 19));
    due("call 512", 6, () -> x.unfold(0));
    PaperGuild mill = new PaperGuild();
    for (int call = 1; call < 512; call++) {
      mill.setRoll(call % 201, call);
    }
    due("call 512 of the mill", 510 % 201 + 1, () -> mill.setRoll(0, 0));
    PaperGuild asked = new PaperGuild();
    asked.setRoll(200, 1048575);
    for (int call = 2; call < 512; call++) {
      asked.fewestPieces();
    }
    due("call 512 of the longest roll", 10, () -> asked.fewestPieces());
  }

  private static void kinds() {
    PaperGuild x = guildWith(32);
    for (int kind = 0; kind < 8; kind++) {
      int k = kind;
      due("setNeeds " + k, 0, () -> x.setNeeds(k, 0));
      due("fold " + k, 31 - k, () -> x.fold(0, k, 1, true));
      due("teach " + k, k + 1, () -> x.teach(0, k));
    }
    due("all of them", 255, () -> x.kindsOf(0));
    for (int kind : new int[] {-1, 8}) {
      due("setNeeds " + kind, INDEX, () -> x.setNeeds(kind, 0));
      due("fold " + kind, INDEX, () -> x.fold(0, kind, 1, true));
      due("teach " + kind, INDEX, () -> x.teach(0, kind));
    }
  }

  private static void needsToldAsBits() {
    for (int kind = 0; kind < 8; kind++) {
      for (int needed = 0; needed < 8; needed++) {
        if (kind != needed) {
          int k = kind;
          int n = needed;
          PaperGuild x = guildWith(4);
          x.setNeeds(k, bits(n));
          due(k + " before " + n, STATE, () -> x.teach(0, k));
          due("" + n, 1, () -> x.teach(0, n));
          due(k + " behind " + n, 2, () -> x.teach(0, k));
          due("what " + k + " needed", bits(n), () -> x.setNeeds(k, 0));
        }
      }
    }
  }

  private static void atFirstNoNeeds() {
    for (int kind = 0; kind < 8; kind++) {
      int k = kind;
      PaperGuild x = guildWith(4);
      due("a first lesson in " + k, 1, () -> x.teach(0, k));
      due("a first step of " + k, 3, () -> x.fold(0, k, 1, true));
      due("what " + k + " needed at first", 0, () -> x.setNeeds(k, 0));
    }
  }

  private static void kindsNotRound() {
    for (int length = 1; length <= 8; length++) {
      PaperGuild x = new PaperGuild();
      for (int kind = 0; kind < length - 1; kind++) {
        x.setNeeds(kind, bits(kind + 1));
      }
      int last = length - 1;
      due("a round of " + length, ARGUMENT, () -> x.setNeeds(last, bits(0)));
      due("a row of " + length, 0, () -> x.setNeeds(last, 0));
    }
    PaperGuild fork = new PaperGuild();
    fork.setNeeds(0, bits(1, 2));
    fork.setNeeds(1, bits(3));
    due("two ways to the same kind are no round", 0, () -> fork.setNeeds(2, bits(3)));
    due("a round by the second way alone", ARGUMENT, () -> fork.setNeeds(3, bits(0)));
    due("what it needed until now is no part of a round", bits(1, 2), () -> fork.setNeeds(0, 0));
    due("the way back", 0, () -> fork.setNeeds(3, bits(0)));
    PaperGuild swap = new PaperGuild();
    swap.setNeeds(0, bits(1));
    swap.setNeeds(0, bits(2));
    due("needs that were replaced do not lead on", 0, () -> swap.setNeeds(1, bits(0)));
    due("those that replaced them do", ARGUMENT, () -> swap.setNeeds(2, bits(1)));
    due("the same needs again", bits(2), () -> swap.setNeeds(0, bits(2)));
  }

  private static void numberedFromZero() {
    PaperGuild x = new PaperGuild();
    for (int model = 0; model < 8; model++) {
      int m = model;
      due("model " + m + ", not yet", INDEX, () -> x.places(m));
      due("number", m, () -> x.addModel(m, 32 - m));
      due("its own length", 32 - m, () -> x.places(m));
    }
    due("the first keeps its number", 32, () -> x.places(0));
  }

  private static void atMostEight() {
    PaperGuild x = new PaperGuild();
    for (int model = 0; model < 7; model++) {
      x.addModel(0, 2);
    }
    due("eighth", 7, () -> x.addModel(0, 2));
    due("ninth", STATE, () -> x.addModel(0, 2));
    due("ninth again", STATE, () -> x.addModel(9, 32));
    due("there are", 8, () -> x.models());
  }

  private static void authors() {
    for (int author = 0; author < 10; author++) {
      int a = author;
      PaperGuild x = new PaperGuild();
      due("author " + a, 0, () -> x.addModel(a, 2));
      x.addModel((a + 1) % 10, 2);
      x.use(1, 0);
      due("credit of " + a, 1, () -> x.credit(a));
    }
    due("author -1", INDEX, () -> new PaperGuild().addModel(-1, 2));
    due("author 10", INDEX, () -> new PaperGuild().addModel(10, 2));
    due("credit of -1", INDEX, () -> new PaperGuild().credit(-1));
    due("credit of 10", INDEX, () -> new PaperGuild().credit(10));
  }

  private static void stripLengths() {
    for (int length = 2; length <= 32; length++) {
      int l = length;
      PaperGuild x = guildWith(l);
      due("places of " + l, l, () -> x.places(0));
      due("last cell of " + l, l - 1, () -> x.placeOf(0, l - 1));
      due("behind the last cell of " + l, INDEX, () -> x.placeOf(0, l));
    }
    for (int length : new int[] {LOW, -2, -1, 0, 1, 33, 34, 64, HIGH}) {
      due("length " + length, ARGUMENT, () -> new PaperGuild().addModel(0, length));
    }
  }

  private static void stepsAtFirstNone() {
    PaperGuild x = guildWith(2);
    due("steps", 0, () -> x.steps(0));
    due("kinds", 0, () -> x.kindsOf(0));
    due("unfold", STATE, () -> x.unfold(0));
  }

  private static void atMostTenSteps() {
    PaperGuild x = guildWith(32);
    for (int step = 0; step < 9; step++) {
      x.fold(0, 0, 1, step % 2 == 0);
    }
    due("tenth", 31 - 9, () -> x.fold(0, 0, 1, false));
    due("eleventh", STATE, () -> x.fold(0, 0, 1, false));
    due("steps", 10, () -> x.steps(0));
    due("places", 22, () -> x.places(0));
    x.unfold(0);
    due("tenth again", 22, () -> x.fold(0, 0, 1, true));
    due("eleventh again", STATE, () -> x.fold(0, 0, 1, true));
    x.addModel(0, 3);
    due("another model has its own ten", 2, () -> x.fold(1, 0, 1, true));
  }

  private static void oneCellAtEachPlace() {
    for (int length : new int[] {2, 3, 31, 32}) {
      PaperGuild x = guildWith(length);
      for (int cell = 0; cell < length; cell++) {
        int c = cell;
        due("cell at " + c, c, () -> x.cellAt(0, c, 0));
        due("above " + c, INDEX, () -> x.cellAt(0, c, 1));
        due("place of " + c, c, () -> x.placeOf(0, c));
        due("turned " + c, false, () -> x.isTurned(0, c));
      }
    }
  }

  private static void placesOfAStep() {
    for (int length : new int[] {2, 3, 32}) {
      for (boolean fromLeft : new boolean[] {true, false}) {
        int last = length - 1;
        due("place 1 of " + length, last, () -> guildWith(length).fold(0, 0, 1, fromLeft));
        due("the last place of " + length, last, () -> guildWith(length).fold(0, 0, last, fromLeft));
        for (int place : new int[] {LOW, -1, 0, length, length + 1, HIGH}) {
          due("place " + place + " of " + length, ARGUMENT, () -> guildWith(length).fold(0, 0, place, fromLeft));
        }
      }
    }
    PaperGuild x = guildWith(6);
    x.fold(0, 0, 2, true);
    due("of four places, not of six", ARGUMENT, () -> x.fold(0, 0, 4, true));
    due("the last of four places", 3, () -> x.fold(0, 0, 3, true));
    x.fold(0, 0, 1, false);
    x.fold(0, 0, 1, true);
    due("one place has no place for a step", ARGUMENT, () -> x.fold(0, 0, 1, true));
    due("nor from the right", ARGUMENT, () -> x.fold(0, 0, 1, false));
    due("nor at 0", ARGUMENT, () -> x.fold(0, 0, 0, false));
  }

  private static void folded(String what, int length, int[] steps, String want) {
    PaperGuild x = guildWith(length);
    for (int step : steps) {
      x.fold(0, 0, Math.abs(step), step > 0);
    }
    due(what, want, () -> table(x, 0));
  }

  private static void fromTheLeft() {
    folded("two cells", 2, new int[] {1}, "1 0");
    folded("less than half", 5, new int[] {2}, "2 1|3 0|4");
    folded("half", 4, new int[] {2}, "2 1|3 0");
    folded("more than half", 5, new int[] {3}, "3 2|4 1|0");
    folded("all but one", 4, new int[] {3}, "3 2|1|0");
    folded("a stack: its lowest comes topmost", 5, new int[] {1, 1}, "2 0 1|3|4");
    folded("a stack onto a stack", 4, new int[] {2, 1}, "3 0 1 2");
    folded("a stack beyond the end", 6, new int[] {2, 3}, "5 4|0 3|1 2");
  }

  private static void fromTheRight() {
    folded("two cells", 2, new int[] {-1}, "0 1");
    folded("less than half", 5, new int[] {-3}, "0|1 4|2 3");
    folded("half", 4, new int[] {-2}, "0 3|1 2");
    folded("more than half", 5, new int[] {-2}, "4|0 3|1 2");
    folded("all but one", 4, new int[] {-1}, "3|2|0 1");
    folded("a stack: its lowest comes topmost", 5, new int[] {-4, -3}, "0|1|2 4 3");
    folded("a stack onto a stack", 4, new int[] {-2, -1}, "0 3 2 1");
    folded("a stack beyond the end", 6, new int[] {-4, -1}, "4 3|5 2|0 1");
    folded("from the left, then from the right", 6, new int[] {2, -2}, "2 1 5|3 0 4");
    folded("from the right, then from the left", 6, new int[] {-4, 2}, "2 5 1|3 4 0");
  }

  private static void numberedAnew() {
    PaperGuild left = guildWith(7);
    due("from the left, half of seven", 4, () -> left.fold(0, 0, 3, true));
    due("place 0 is where the fold was", 3, () -> left.cellAt(0, 0, 0));
    due("the end of the strip", 3, () -> left.placeOf(0, 6));
    PaperGuild beyond = guildWith(7);
    due("from the right, beyond the start", 6, () -> beyond.fold(0, 0, 1, false));
    due("place 0 is the lowest at which a cell lies", 6, () -> beyond.cellAt(0, 0, 0));
    due("the cell that stayed", 5, () -> beyond.placeOf(0, 0));
    PaperGuild far = guildWith(32);
    due("the widest fold beyond the start", 31, () -> far.fold(0, 0, 1, false));
    due("from there to the other end", 30, () -> far.fold(0, 0, 30, true));
    due("the last that was turned onto place 0", 2, () -> far.cellAt(0, 0, 2));
    due("the cell that was turned farthest", 29, () -> far.placeOf(0, 31));
    for (int cell = 0; cell < 32; cell++) {
      int c = cell;
      due("the same by the stacks and by following", true, () -> liesAt(far, far.placeOf(0, c), c));
    }
  }

  private static boolean liesAt(PaperGuild x, int place, int cell) {
    for (int height = 0; height < x.layers(0); height++) {
      int at = height;
      if (said(() -> x.cellAt(0, place, at)).equals(String.valueOf(cell))) {
        return true;
      }
    }
    return false;
  }

  private static void greatestNumberOfCells() {
    for (int cells = 2; cells <= 32; cells++) {
      PaperGuild x = onOnePlace(cells);
      int c = cells;
      due("all on one place", c, () -> x.layers(0));
      due("by following", c, () -> x.layersByFollowing(0));
    }
    PaperGuild x = guildWith(7);
    x.fold(0, 0, 1, true);
    x.fold(0, 0, 1, true);
    due("three at the first place, one at the others", 3, () -> x.layers(0));
    PaperGuild y = guildWith(7);
    y.fold(0, 0, 6, false);
    due("two at the last place", 2, () -> y.layers(0));
    PaperGuild z = guildWith(7);
    z.fold(0, 0, 6, false);
    z.fold(0, 0, 4, true);
    z.fold(0, 0, 3, false);
    due("three in the middle", "4 3|5 6 2|1 0", () -> table(z, 0));
    due("three in the middle", 3, () -> z.layers(0));
    due("three in the middle, by following", 3, () -> z.layersByFollowing(0));
  }

  private static void behindAllSteps() {
    PaperGuild x = guildWith(8);
    due("none", 1, () -> x.layers(0));
    x.fold(0, 0, 4, true);
    due("one", 2, () -> x.layers(0));
    x.fold(0, 0, 2, true);
    due("two", 4, () -> x.layers(0));
    x.fold(0, 0, 1, true);
    due("three", 8, () -> x.layers(0));
    x.unfold(0);
    x.unfold(0);
    due("two taken away", 2, () -> x.layers(0));
    due("two taken away, by following", 2, () -> x.layersByFollowing(0));
  }

  private static void onlyAddedBehindItsNeeds() {
    PaperGuild x = guildWith(32);
    x.setNeeds(2, bits(0, 1));
    due("none of two", STATE, () -> x.fold(0, 2, 1, true));
    x.fold(0, 0, 1, true);
    due("one of two", STATE, () -> x.fold(0, 2, 1, true));
    x.fold(0, 1, 1, true);
    due("both", 29, () -> x.fold(0, 2, 1, true));
    x.setNeeds(3, bits(0, 1, 2, 4, 5, 6, 7));
    for (int kind = 4; kind < 8; kind++) {
      due("one of seven is missing", STATE, () -> x.fold(0, 3, 1, true));
      x.fold(0, kind, 1, true);
    }
    due("all seven", 24, () -> x.fold(0, 3, 1, true));
    PaperGuild taken = guildWith(8);
    taken.setNeeds(1, bits(0));
    taken.fold(0, 0, 1, true);
    taken.unfold(0);
    due("a step that was taken away", STATE, () -> taken.fold(0, 1, 1, true));
    taken.fold(0, 0, 1, true);
    taken.fold(0, 0, 1, true);
    taken.unfold(0);
    due("another step of the kind stayed", 6, () -> taken.fold(0, 1, 1, true));
  }

  private static void directly() {
    PaperGuild x = guildWith(8);
    x.fold(0, 1, 1, true);
    x.setNeeds(1, bits(0));
    x.setNeeds(2, bits(1));
    due("what its needs need does not count", 6, () -> x.fold(0, 2, 1, true));
    PaperGuild y = guildWith(8);
    y.addModel(0, 8);
    y.fold(1, 0, 1, true);
    y.use(0, 1);
    y.setNeeds(1, bits(0));
    y.teach(0, 0);
    due("a step of a used model is no step of the model", STATE, () -> y.fold(0, 1, 1, true));
    due("the used model has it", 6, () -> y.fold(1, 1, 1, true));
  }

  private static void withoutNeedsAtAnyTime() {
    PaperGuild x = guildWith(32);
    x.setNeeds(1, bits(0));
    due("first", 31, () -> x.fold(0, 7, 1, true));
    due("again", 30, () -> x.fold(0, 7, 1, true));
    due("needed by another", 29, () -> x.fold(0, 0, 1, true));
    x.setNeeds(1, 0);
    due("needs taken back", 28, () -> x.fold(0, 1, 1, true));
    for (int step = 4; step < 9; step++) {
      x.fold(0, 7, 1, true);
    }
    due("tenth", 22, () -> x.fold(0, 6, 1, true));
  }

  private static PaperGuild rowOfEight() {
    PaperGuild x = new PaperGuild();
    for (int model = 0; model < 8; model++) {
      x.addModel(model, 4);
      x.fold(model, model, 1, true);
    }
    return x;
  }

  private static void kindsOfThoseUsed() {
    PaperGuild x = rowOfEight();
    for (int model = 0; model < 7; model++) {
      x.use(model, model + 1);
    }
    PaperGuild back = rowOfEight();
    for (int model = 7; model > 0; model--) {
      back.use(model, model - 1);
    }
    for (int model = 0; model < 8; model++) {
      int m = model;
      due("a row from " + m + " up", 255 & -(1 << m), () -> x.kindsOf(m));
      due("lessons from " + m + " up", 8 - m, () -> x.lessons(0, m));
      due("a row from " + m + " down", (2 << m) - 1, () -> back.kindsOf(m));
      due("lessons from " + m + " down", m + 1, () -> back.lessons(0, m));
      due("examined from " + m + " down", m == 0, () -> {
        back.teach(1, 0);
        return back.mayFold(1, m);
      });
    }
    due("where it is folded they do not count", 1, () -> x.steps(0));
    x.fold(6, 7, 1, true);
    due("a kind of two models counts as well", bits(6, 7), () -> x.kindsOf(6));
    due("a kind of two models is taught once", 2, () -> x.lessons(0, 6));
    due("a kind of two models by a longer way", bits(5, 6, 7), () -> x.kindsOf(5));
  }

  private static void modelsNotRound() {
    for (int length = 1; length <= 8; length++) {
      PaperGuild x = rowOfEight();
      for (int model = 0; model < length - 1; model++) {
        x.use(model, model + 1);
      }
      int last = length - 1;
      due("a round of " + length, ARGUMENT, () -> x.use(last, 0));
      due("its kinds", bits(last), () -> x.kindsOf(last));
    }
    PaperGuild fork = rowOfEight();
    fork.use(0, 1);
    fork.use(0, 2);
    fork.use(1, 3);
    due("two ways to the same model are no round", true, () -> fork.use(2, 3));
    due("a round by both", ARGUMENT, () -> fork.use(3, 0));
    due("a model that is not on the way", true, () -> fork.use(3, 4));
  }

  private static void creditOfOtherAuthors() {
    PaperGuild x = new PaperGuild();
    for (int model = 0; model < 8; model++) {
      x.addModel(model < 2 ? 0 : 9, 2);
    }
    due("nothing is used", 0, () -> x.credit(0));
    x.use(0, 1);
    due("a model of the author itself", 0, () -> x.credit(0));
    for (int model = 2; model < 8; model++) {
      int m = model;
      x.use(m, 0);
      due("directly, up to " + m, m - 1, () -> x.credit(0));
    }
    for (int model = 2; model < 8; model++) {
      x.use(model, 1);
    }
    due("each counted once", 6, () -> x.credit(0));
    due("the other author", 0, () -> x.credit(9));
    due("an author without models", 0, () -> x.credit(5));
    PaperGuild row = rowOfEight();
    for (int model = 7; model > 0; model--) {
      row.use(model, model - 1);
    }
    for (int author = 0; author < 8; author++) {
      int a = author;
      due("by way of others, author " + a, 7 - a, () -> row.credit(a));
    }
    PaperGuild early = rowOfEight();
    early.use(0, 7);
    due("the first model uses the last", 1, () -> early.credit(7));
    due("the last uses none", 0, () -> early.credit(0));
    PaperGuild own = new PaperGuild();
    own.addModel(3, 2);
    own.addModel(4, 2);
    own.addModel(3, 2);
    own.use(2, 1);
    own.use(1, 0);
    due("a way through another author back to the author", 1, () -> own.credit(3));
    due("who is used between them", 1, () -> own.credit(4));
  }

  private static void lengthsOfTheRoll() {
    PaperGuild x = new PaperGuild();
    for (int length = 0; length <= 200; length++) {
      int l = length;
      due("behind " + l, Math.max(0, l - 1), () -> x.setRoll(l, 1));
      due("by pieces of one", l, () -> x.fewestPieces());
    }
    for (int length : new int[] {LOW, -200, -1, 201, 256, HIGH}) {
      due("length " + length, ARGUMENT, () -> x.setRoll(length, 1));
    }
    due("the length is still", 200, () -> x.setRoll(0, 0));
  }

  private static void lengthsInDemand() {
    for (int piece = 1; piece <= 20; piece++) {
      int p = piece;
      PaperGuild x = new PaperGuild();
      x.setRoll(p, lengths(p));
      due("one piece of " + p, 1, () -> x.fewestPieces());
      x.setRoll(p, 1048575 - lengths(p));
      due("all but " + p, p == 1 ? -1 : 2, () -> x.fewestPieces());
    }
    PaperGuild x = new PaperGuild();
    due("a length of 21", ARGUMENT, () -> x.setRoll(42, 1 << 20));
    due("the highest bit", ARGUMENT, () -> x.setRoll(42, LOW));
    due("all", 0, () -> x.setRoll(42, 1048575));
    due("none", 42, () -> x.setRoll(42, 0));
  }

  private static void asManyAsWished() {
    PaperGuild x = new PaperGuild();
    x.setRoll(200, lengths(1));
    due("two hundred of one length", 200, () -> x.fewestPieces());
    x.setRoll(200, lengths(20));
    due("ten of one length", 10, () -> x.fewestPieces());
    x.setRoll(12, lengths(2, 3));
    due("ways by twos and threes", 3, () -> x.ways());
  }

  private static void withoutARest() {
    PaperGuild x = new PaperGuild();
    x.setRoll(19, lengths(20));
    due("one too short", -1, () -> x.fewestPieces());
    x.setRoll(20, lengths(20));
    due("as long", 1, () -> x.fewestPieces());
    x.setRoll(21, lengths(20));
    due("one too long", -1, () -> x.fewestPieces());
    due("its rest", 1, () -> x.leastRest());
    x.setRoll(0, lengths(20));
    due("no roll, no pieces", 0, () -> x.fewestPieces());
    due("no pieces are one way", 1, () -> x.ways());
  }

  private static void pupils() {
    PaperGuild x = guildWith(4);
    x.fold(0, 2, 1, true);
    for (int pupil = 0; pupil < 6; pupil++) {
      int p = pupil;
      due("lesson of " + p, 1, () -> x.teach(p, 2));
      due("exam of " + p, true, () -> x.mayFold(p, 0));
      due("no more lessons of " + p, 0, () -> x.lessons(p, 0));
    }
    for (int pupil : new int[] {-1, 6}) {
      due("teach " + pupil, INDEX, () -> x.teach(pupil, 2));
      due("mayFold " + pupil, INDEX, () -> x.mayFold(pupil, 0));
      due("lessons " + pupil, INDEX, () -> x.lessons(pupil, 0));
    }
  }

  private static void knowsNoneAtFirst() {
    PaperGuild x = rowOfEight();
    for (int pupil = 0; pupil < 6; pupil++) {
      int p = pupil;
      for (int kind = 0; kind < 8; kind++) {
        int k = kind;
        due("kind " + k + " of " + p, false, () -> x.mayFold(p, k));
      }
      due("the first that it knows", 1, () -> x.teach(p, 7 - p));
    }
  }

  private static void lessonBehindItsNeeds() {
    PaperGuild x = new PaperGuild();
    x.setNeeds(7, 127);
    for (int kind = 0; kind < 7; kind++) {
      int k = kind;
      due("so far " + k, STATE, () -> x.teach(5, 7));
      due("lesson " + k, k + 1, () -> x.teach(5, k));
    }
    due("all needs known", 8, () -> x.teach(5, 7));
    due("what another pupil knows does not count", STATE, () -> x.teach(4, 7));
  }

  private static void mayFoldIfItKnowsAll() {
    PaperGuild x = rowOfEight();
    for (int model = 1; model < 8; model++) {
      x.use(0, model);
    }
    for (int kind = 0; kind < 8; kind++) {
      due("before kind " + kind, false, () -> x.mayFold(2, 0));
      x.teach(2, kind);
    }
    due("all", true, () -> x.mayFold(2, 0));
    due("more than all", true, () -> x.mayFold(2, 1));
    PaperGuild plain = guildWith(2);
    due("a model without steps", true, () -> plain.mayFold(2, 0));
  }

  private static void ageOfPaper() {
    PaperGuild x = guildWith(2);
    for (int age = 0; age <= 20; age++) {
      int a = age;
      due("age " + a, true, () -> x.bears(0, a));
    }
    for (int age : new int[] {LOW, -21, -1, 21, 22, HIGH}) {
      due("age " + age, ARGUMENT, () -> x.bears(0, age));
    }
  }

  private static void whatPaperBears() {
    for (int layers = 2; layers <= 32; layers++) {
      PaperGuild x = onOnePlace(layers);
      for (int age = 0; age <= 20; age++) {
        int a = age;
        due(layers + " layers at " + a, a <= OLDEST[layers - 1], () -> x.bears(0, a));
      }
    }
  }

  private static void atLeastOne() {
    PaperGuild x = guildWith(32);
    due("a flat strip, twenty years", true, () -> x.bears(0, 20));
    x.fold(0, 0, 31, true);
    due("two layers, twenty years", false, () -> x.bears(0, 20));
    due("two layers, nineteen years", true, () -> x.bears(0, 19));
    x.unfold(0);
    due("flat again", true, () -> x.bears(0, 20));
  }

  private static void atNoTimeMore() {
    PaperGuild x = guildWith(16);
    x.fold(0, 0, 8, true);
    x.fold(0, 0, 4, true);
    x.fold(0, 0, 1, true);
    due("eight at one place, four at two", "13 2 5 10 11 4 3 12|14 1 6 9|15 0 7 8", () -> table(x, 0));
    due("the greatest counts", true, () -> x.bears(0, 16));
    due("one year more", false, () -> x.bears(0, 17));
    x.addModel(0, 2);
    x.use(1, 0);
    due("layers of a used model lie elsewhere", true, () -> x.bears(1, 20));
  }

  public static void main(String[] args) {
    test("An object is used for at most 512 calls", TermsTest::fiveHundredAndTwelveCalls);
    test("Kinds of folds are 0 to 7", TermsTest::kinds);
    test("A kind needs some kinds, told as bits", TermsTest::needsToldAsBits);
    test("at first none", TermsTest::atFirstNoNeeds);
    test("Kinds do not need one another round", TermsTest::kindsNotRound);
    test("Models are numbered from 0 on", TermsTest::numberedFromZero);
    test("there are at most 8", TermsTest::atMostEight);
    test("A model has an author, 0 to 9", TermsTest::authors);
    test("a length, 2 to 32", TermsTest::stripLengths);
    test("steps, at first none", TermsTest::stepsAtFirstNone);
    test("at most 10", TermsTest::atMostTenSteps);
    test("one cell at each in the beginning, cell k at the place k", TermsTest::oneCellAtEachPlace);
    test("a place p, from 1 to the number of places less 1", TermsTest::placesOfAStep);
    test("From the left", TermsTest::fromTheLeft);
    test("From the right likewise", TermsTest::fromTheRight);
    test("Then the places are numbered anew", TermsTest::numberedAnew);
    test("The layers are the greatest number of cells at one place", TermsTest::greatestNumberOfCells);
    test("behind all steps", TermsTest::behindAllSteps);
    test("A step is only added if all kinds that its kind needs are there", TermsTest::onlyAddedBehindItsNeeds);
    test("directly", TermsTest::directly);
    test("a kind without needs can come at any time", TermsTest::withoutNeedsAtAnyTime);
    test("all kinds of that one count as its own, and so on", TermsTest::kindsOfThoseUsed);
    test("models never use one another round", TermsTest::modelsNotRound);
    test("Credit: models of other authors, each counted once", TermsTest::creditOfOtherAuthors);
    test("a roll of some length, 0 to 200", TermsTest::lengthsOfTheRoll);
    test("a set of lengths from 1 to 20", TermsTest::lengthsInDemand);
    test("as many of each as wished", TermsTest::asManyAsWished);
    test("without a rest if the pieces are as long as the roll", TermsTest::withoutARest);
    test("Pupils are 0 to 5", TermsTest::pupils);
    test("A pupil knows some kinds, none at first", TermsTest::knowsNoneAtFirst);
    test("if it knows all kinds that this one needs", TermsTest::lessonBehindItsNeeds);
    test("may fold if it knows all kinds that count", TermsTest::mayFoldIfItKnowsAll);
    test("Paper has an age, 0 to 20 years", TermsTest::ageOfPaper);
    test("it bears 40 layers less 2 for each year", TermsTest::whatPaperBears);
    test("at least 1", TermsTest::atLeastOne);
    test("if at no time more layers lie at a place", TermsTest::atNoTimeMore);
    finish("the terms hold at their boundaries");
  }
}
