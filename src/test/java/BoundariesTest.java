/** A test of its own for each sentence of the promises 1 to 24 that names a boundary case. */
public final class BoundariesTest extends Checks {
  private static final int EVERY_LENGTH = 1048575;

  private interface AskOfModel {
    Object answer(PaperGuild guild, int model);
  }

  // ---- promise 1

  private static void newNoModels() {
    PaperGuild x = new PaperGuild();
    due("models", 0, () -> x.models());
    due("steps of 0", INDEX, () -> x.steps(0));
    due("use of 0 by 0", INDEX, () -> x.use(0, 0));
    due("the first model", 0, () -> x.addModel(0, 2));
    due("a second guild", 0, () -> new PaperGuild().models());
  }

  private static void newNoNeeds() {
    PaperGuild x = new PaperGuild();
    for (int kind = 0; kind < 8; kind++) {
      int k = kind;
      due("needs of " + k, 0, () -> x.setNeeds(k, 0));
      due("lesson in " + k, 1, () -> new PaperGuild().teach(5, k));
    }
  }

  private static void newRoll() {
    PaperGuild x = new PaperGuild();
    due("fewestPieces", 0, () -> x.fewestPieces());
    due("ways", 1, () -> x.ways());
    due("leastRest", 0, () -> x.leastRest());
    due("length", 0, () -> x.setRoll(0, 0));
    due("the same without lengths in demand", 1, () -> x.ways());
  }

  private static void newNobodyKnows() {
    PaperGuild x = guildWith(32);
    for (int kind = 0; kind < 8; kind++) {
      x.fold(0, kind, 1, true);
    }
    for (int pupil = 0; pupil < 6; pupil++) {
      int p = pupil;
      due("lessons of " + p, 8, () -> x.lessons(p, 0));
      due("the first lesson of " + p, 1, () -> x.teach(p, p));
    }
  }

  // ---- promise 2

  private static void needsInRange() {
    for (int kind = 0; kind < 8; kind++) {
      int k = kind;
      PaperGuild x = new PaperGuild();
      due("none for " + k, 0, () -> x.setNeeds(k, 0));
      due("all others for " + k, 0, () -> x.setNeeds(k, 255 - (1 << k)));
      for (int needs : new int[] {LOW, -256, -2, -1, 256, 257, 512, 1 << 16, HIGH}) {
        due(needs + " for " + k, ARGUMENT, () -> x.setNeeds(k, needs));
      }
      due("as before for " + k, 255 - (1 << k), () -> x.setNeeds(k, 0));
    }
  }

  private static void needsItself() {
    for (int kind = 0; kind < 8; kind++) {
      int k = kind;
      PaperGuild x = new PaperGuild();
      due(k + " itself", ARGUMENT, () -> x.setNeeds(k, 1 << k));
      due(k + " all, itself too", ARGUMENT, () -> x.setNeeds(k, 255));
      due(k + " needs nothing still", 0, () -> x.setNeeds(k, 0));
    }
  }

  private static void neededBefore() {
    PaperGuild x = new PaperGuild();
    due("at first", 0, () -> x.setNeeds(6, 1));
    due("once set", 1, () -> x.setNeeds(6, 128));
    due("replaced, not added", 128, () -> x.setNeeds(6, 63));
    due("set to the same", 63, () -> x.setNeeds(6, 63));
    due("taken back", 63, () -> x.setNeeds(6, 0));
    due("none again", 0, () -> x.setNeeds(6, 0));
    due("another kind", 0, () -> x.setNeeds(7, 0));
  }

  private static void needsRoundInEachOrder() {
    for (int first = 0; first < 8; first++) {
      for (int second = 0; second < 8; second++) {
        for (int third = 0; third < 8; third++) {
          if (first != second && second != third && third != first) {
            int a = first;
            int b = second;
            int c = third;
            PaperGuild x = new PaperGuild();
            x.setNeeds(a, bits(b));
            due(b + " needs " + a, ARGUMENT, () -> x.setNeeds(b, bits(a)));
            x.setNeeds(b, bits(c));
            due(c + " needs " + a + " by way of " + b, ARGUMENT, () -> x.setNeeds(c, bits(a)));
            due(a + " may need both", bits(b), () -> x.setNeeds(a, bits(b, c)));
          }
        }
      }
    }
  }

  // ---- promise 3

  private static void addedAtTheEdges() {
    PaperGuild x = new PaperGuild();
    due("the shortest of the first author", 0, () -> x.addModel(0, 2));
    due("the longest of the last author", 1, () -> x.addModel(9, 32));
    due("too short", ARGUMENT, () -> x.addModel(0, 1));
    due("too long", ARGUMENT, () -> x.addModel(9, 33));
    due("no such author, below", INDEX, () -> x.addModel(-1, 2));
    due("no such author, above", INDEX, () -> x.addModel(10, 32));
    due("none of these took a number", 2, () -> x.addModel(5, 16));
    due("the places of the first", 2, () -> x.places(0));
    due("the places of the second", 32, () -> x.places(1));
    due("the places of the third", 16, () -> x.places(2));
  }

  private static void addedWhenThereAreEight() {
    PaperGuild x = new PaperGuild();
    for (int model = 0; model < 8; model++) {
      int m = model;
      due("number " + m, m, () -> x.addModel(9, 2 + m));
    }
    due("one more", STATE, () -> x.addModel(0, 2));
    due("one more, the longest", STATE, () -> x.addModel(9, 32));
    due("the last stays as it was", 9, () -> x.places(7));
    x.fold(7, 0, 1, true);
    x.unfold(7);
    due("room is never made", STATE, () -> x.addModel(0, 2));
  }

  // ---- promise 4

  private static void foldAtEachPlace() {
    for (int length = 2; length <= 32; length++) {
      int l = length;
      for (int place = 0; place <= length; place++) {
        int p = place;
        boolean isPlace = p > 0 && p < l;
        Object want = isPlace ? Math.max(p, l - p) : ARGUMENT;
        due("from the left at " + p + " of " + l, want, () -> guildWith(l).fold(0, 0, p, true));
        due("from the right at " + p + " of " + l, want, () -> guildWith(l).fold(0, 0, p, false));
      }
    }
  }

  private static void foldAnswersThePlacesThen() {
    PaperGuild x = guildWith(32);
    int[] places = {31, 16, 10, 9, 5, 3, 2, 1};
    int[] at = {1, 15, 6, 9, 4, 2, 1, 1};
    for (int step = 0; step < at.length; step++) {
      int s = step;
      due("step " + s, places[s], () -> x.fold(0, 0, at[s], s % 2 == 0));
      due("places behind step " + s, places[s], () -> x.places(0));
    }
  }

  private static void foldTenSteps() {
    PaperGuild x = guildWith(32);
    for (int step = 1; step <= 10; step++) {
      int s = step;
      due("step " + s, 32 - s, () -> x.fold(0, 7, 1, true));
    }
    due("eleventh from the left", STATE, () -> x.fold(0, 7, 1, true));
    due("eleventh from the right", STATE, () -> x.fold(0, 0, 21, false));
    due("eleventh out of range", ARGUMENT, () -> x.fold(0, 0, 22, false));
    due("the places stay", 22, () -> x.places(0));
    due("the layers stay", 11, () -> x.layers(0));
    due("the kinds stay", bits(7), () -> x.kindsOf(0));
  }

  private static void foldOfEachNeed() {
    for (int needed = 0; needed < 7; needed++) {
      int n = needed;
      PaperGuild x = guildWith(32);
      x.setNeeds(7, 127);
      for (int kind = 0; kind < 7; kind++) {
        if (kind != n) {
          x.fold(0, kind, 1, true);
        }
      }
      due("all but " + n, STATE, () -> x.fold(0, 7, 1, true));
      x.fold(0, n, 1, true);
      due("all", 24, () -> x.fold(0, 7, 1, true));
    }
  }

  private static void foldAsTheTenthBehindItsNeed() {
    PaperGuild x = guildWith(32);
    x.setNeeds(1, bits(2));
    for (int step = 0; step < 8; step++) {
      x.fold(0, 0, 1, true);
    }
    due("ninth, need missing", STATE, () -> x.fold(0, 1, 1, true));
    due("ninth, the need", 23, () -> x.fold(0, 2, 1, true));
    due("tenth, behind its need", 22, () -> x.fold(0, 1, 1, true));
    x.unfold(0);
    x.unfold(0);
    due("the need taken away", STATE, () -> x.fold(0, 1, 1, true));
  }

  // ---- promise 5

  private static void unfoldOneByOne() {
    PaperGuild x = guildWith(32);
    int[] at = {16, 3, 9, 1, 7, 2, 4, 1, 2, 1};
    String[] tables = new String[11];
    tables[0] = table(x, 0);
    for (int step = 0; step < 10; step++) {
      x.fold(0, (step * 3) % 8, at[step], step % 3 == 0);
      tables[step + 1] = table(x, 0);
    }
    for (int step = 10; step > 0; step--) {
      int s = step;
      due("table of " + s, tables[s], () -> table(x, 0));
      due("kind of " + s, (s - 1) * 3 % 8, () -> x.unfold(0));
      due("steps then", s - 1, () -> x.steps(0));
    }
    due("the flat strip", tables[0], () -> table(x, 0));
    due("none left", STATE, () -> x.unfold(0));
    due("and again", STATE, () -> x.unfold(0));
  }

  private static void unfoldOfAFullModel() {
    PaperGuild x = guildWith(32);
    for (int step = 0; step < 10; step++) {
      x.fold(0, step % 8, 1, false);
    }
    for (int turn = 0; turn < 40; turn++) {
      due("the tenth", 1, () -> x.unfold(0));
      due("another tenth", 22, () -> x.fold(0, 1, 1, false));
    }
    due("full", STATE, () -> x.fold(0, 1, 1, false));
  }

  private static void unfoldOfOneModel() {
    PaperGuild x = guildWith(4);
    x.addModel(0, 4);
    x.fold(0, 1, 1, true);
    x.fold(1, 2, 1, true);
    due("of the first", 1, () -> x.unfold(0));
    due("steps of the second", 1, () -> x.steps(1));
    due("no steps in the first", STATE, () -> x.unfold(0));
    due("of the second", 2, () -> x.unfold(1));
  }

  private static void unfoldThoughItsKindIsNeeded() {
    PaperGuild x = guildWith(8);
    x.setNeeds(1, bits(0));
    x.fold(0, 0, 1, true);
    x.fold(0, 1, 1, true);
    x.setNeeds(0, bits(2));
    due("the one that needed", 1, () -> x.unfold(0));
    due("the one that was needed", 0, () -> x.unfold(0));
    due("now it needs another", STATE, () -> x.fold(0, 0, 1, true));
  }

  // ---- promise 6

  private static void useOfEachPair() {
    for (int model = 0; model < 8; model++) {
      for (int other = 0; other < 8; other++) {
        int m = model;
        int o = other;
        PaperGuild x = withEight();
        due(m + " uses " + o, m == o ? ARGUMENT : "true", () -> x.use(m, o));
        due(m + " uses " + o + " again", m == o ? ARGUMENT : "false", () -> x.use(m, o));
        due(o + " uses " + m, ARGUMENT, () -> x.use(o, m));
      }
    }
  }

  private static void useDirectlySoFar() {
    PaperGuild x = withEight();
    x.use(0, 1);
    x.use(1, 2);
    due("by way of another only", true, () -> x.use(0, 2));
    due("directly now", false, () -> x.use(0, 2));
    due("the same other by another model", true, () -> x.use(3, 2));
    due("refused, and still not used", ARGUMENT, () -> x.use(2, 0));
    due("refused again", ARGUMENT, () -> x.use(2, 0));
    for (int other = 3; other < 8; other++) {
      int o = other;
      due("one more, " + o, true, () -> x.use(0, o));
    }
    for (int other = 1; other < 8; other++) {
      int o = other;
      due("all that one can use, " + o, false, () -> x.use(0, o));
    }
  }

  private static void useRoundByLongWays() {
    PaperGuild x = withEight();
    int[] row = {3, 6, 0, 7, 2, 5, 1, 4};
    for (int at = 1; at < row.length; at++) {
      x.use(row[at - 1], row[at]);
    }
    for (int at = 1; at < row.length; at++) {
      int from = row[at];
      for (int to = 0; to < at; to++) {
        int other = row[to];
        due(from + " uses " + other, ARGUMENT, () -> x.use(from, other));
      }
    }
    due("along the row", true, () -> x.use(3, 4));
  }

  private static PaperGuild withEight() {
    PaperGuild x = new PaperGuild();
    for (int model = 0; model < 8; model++) {
      x.addModel(model, 2);
    }
    return x;
  }

  // ---- promise 7

  private static void rollInRange() {
    PaperGuild x = new PaperGuild();
    due("the longest", 0, () -> x.setRoll(200, EVERY_LENGTH));
    due("none", 200, () -> x.setRoll(0, 0));
    due("one", 0, () -> x.setRoll(1, 1));
    due("too long", ARGUMENT, () -> x.setRoll(201, 1));
    due("below none", ARGUMENT, () -> x.setRoll(-1, 1));
    due("one still", 1, () -> x.setRoll(1, 1));
  }

  private static void setInRange() {
    PaperGuild x = new PaperGuild();
    due("none", 0, () -> x.setRoll(7, 0));
    due("all", 7, () -> x.setRoll(8, EVERY_LENGTH));
    due("a length of 21", ARGUMENT, () -> x.setRoll(9, EVERY_LENGTH + 1));
    due("lengths of 1 and 21", ARGUMENT, () -> x.setRoll(9, EVERY_LENGTH + 2));
    due("below none", ARGUMENT, () -> x.setRoll(9, -1));
    due("far below", ARGUMENT, () -> x.setRoll(9, LOW));
    due("far above", ARGUMENT, () -> x.setRoll(9, HIGH));
    due("all still", 1, () -> x.fewestPieces());
    due("eight still", 8, () -> x.setRoll(9, 0));
  }

  private static void rollReplaced() {
    PaperGuild x = new PaperGuild();
    x.setRoll(6, lengths(3));
    x.setRoll(6, lengths(4));
    due("threes are no longer in demand", -1, () -> x.fewestPieces());
    x.setRoll(4, lengths(4));
    due("a shorter roll", 1, () -> x.fewestPieces());
    x.setRoll(200, 0);
    due("nothing is in demand", 200, () -> x.leastRest());
  }

  // ---- promise 8

  private static void teachAllKinds() {
    PaperGuild x = new PaperGuild();
    for (int pupil = 5; pupil >= 0; pupil--) {
      int p = pupil;
      for (int kind = 0; kind < 8; kind++) {
        int k = 7 - kind;
        due("kind " + k, kind + 1, () -> x.teach(p, k));
        due("kind " + k + " again", kind + 1, () -> x.teach(p, k));
      }
    }
  }

  private static void teachBehindNeeds() {
    PaperGuild x = new PaperGuild();
    x.setNeeds(0, bits(6, 7));
    x.setNeeds(6, bits(5));
    due("neither", STATE, () -> x.teach(0, 0));
    x.teach(0, 7);
    due("one of two", STATE, () -> x.teach(0, 0));
    due("by way of another", STATE, () -> x.teach(0, 6));
    x.teach(0, 5);
    due("its need", 3, () -> x.teach(0, 6));
    x.setNeeds(6, bits(4));
    due("only what it needs itself", 4, () -> x.teach(0, 0));
    due("known already, but its needs are not", STATE, () -> x.teach(0, 6));
    x.setNeeds(6, 0);
    due("known already", 4, () -> x.teach(0, 6));
  }

  // ---- promises 9 to 11

  private static void countModels() {
    PaperGuild x = new PaperGuild();
    for (int model = 0; model < 8; model++) {
      int m = model;
      due("before number " + m, m, () -> x.models());
      x.addModel(0, 2);
    }
    due("all", 8, () -> x.models());
    due("refused", STATE, () -> x.addModel(0, 2));
    due("all still", 8, () -> x.models());
  }

  private static void countSteps() {
    PaperGuild x = guildWith(32);
    for (int step = 0; step < 10; step++) {
      int s = step;
      due("before step " + s, s, () -> x.steps(0));
      x.fold(0, 0, 1, false);
    }
    due("all", 10, () -> x.steps(0));
    due("refused", STATE, () -> x.fold(0, 0, 1, false));
    due("all still", 10, () -> x.steps(0));
    for (int step = 9; step >= 0; step--) {
      x.unfold(0);
      int s = step;
      due("taken away to " + s, s, () -> x.steps(0));
    }
  }

  private static void countPlaces() {
    PaperGuild x = guildWith(32);
    due("flat", 32, () -> x.places(0));
    for (int places = 16; places >= 1; places /= 2) {
      int p = places;
      x.fold(0, 0, p, p > 2);
      due("halved to " + p, p, () -> x.places(0));
    }
    x.unfold(0);
    due("from one to two", 2, () -> x.places(0));
    x.addModel(0, 2);
    due("the shortest", 2, () -> x.places(1));
    x.fold(1, 0, 1, false);
    due("the fewest", 1, () -> x.places(1));
  }

  // ---- promises 12 and 16

  private static void countLayers(AskOfModel layers) {
    PaperGuild x = guildWith(32);
    for (int step = 0; step <= 10; step++) {
      int s = step;
      due("rolled up from the left by " + s, s + 1, () -> layers.answer(x, 0));
      if (s < 10) {
        x.fold(0, 0, 1, true);
      }
    }
    PaperGuild y = guildWith(32);
    for (int places = 16; places >= 1; places /= 2) {
      y.fold(0, 0, places, places % 3 == 1);
    }
    due("all on one", 32, () -> layers.answer(y, 0));
    due("another guild's", 11, () -> layers.answer(x, 0));
    due("the first again", 32, () -> layers.answer(y, 0));
    y.addModel(0, 2);
    due("the shortest, behind the greatest", 1, () -> layers.answer(y, 1));
    due("no such model", INDEX, () -> layers.answer(y, 2));
  }

  // ---- promise 13

  private static void cellsAtTheEdges() {
    PaperGuild x = guildWith(6);
    due("the last place", 5, () -> x.cellAt(0, 5, 0));
    due("behind the last place", INDEX, () -> x.cellAt(0, 6, 0));
    x.fold(0, 0, 4, false);
    due("the last place is nearer", 4, () -> x.cellAt(0, 3, 1));
    due("behind the last place", INDEX, () -> x.cellAt(0, 4, 0));
    due("far behind the last place", INDEX, () -> x.cellAt(0, 32, 0));
    due("place -1", INDEX, () -> x.cellAt(0, -1, 0));
    due("the lowest", 3, () -> x.cellAt(0, 3, 0));
    due("the height below", INDEX, () -> x.cellAt(0, 3, -1));
    due("the height above two", INDEX, () -> x.cellAt(0, 3, 2));
    due("the height above one", INDEX, () -> x.cellAt(0, 0, 1));
    due("height 32", INDEX, () -> x.cellAt(0, 0, 32));
    x.unfold(0);
    due("the place that there is again", 4, () -> x.cellAt(0, 4, 0));
    due("no height there any more", INDEX, () -> x.cellAt(0, 3, 1));
  }

  private static void thirtyTwoCellsAtOnePlace() {
    PaperGuild x = guildWith(32);
    for (int places = 16; places >= 1; places /= 2) {
      x.fold(0, 0, places, true);
    }
    boolean[] seen = new boolean[32];
    for (int height = 0; height < 32; height++) {
      int cell = x.cellAt(0, 0, height);
      due("each cell once", false, () -> seen[cell]);
      seen[cell] = true;
    }
    due("the topmost lay lowest at the place that was turned last", x.cellAt(0, 0, 31), () -> {
      x.unfold(0);
      return x.cellAt(0, 0, 0);
    });
    due("height 32", INDEX, () -> {
      x.fold(0, 0, 1, true);
      return x.cellAt(0, 0, 32);
    });
  }

  // ---- promises 14 and 15

  private static final int[] LENGTHS = {2, 17, 32};

  private static int[] noCellsOf(int length) {
    return new int[] {LOW, -1, length, length + 1, 64, HIGH};
  }

  private static PaperGuild foldedOnce(int length, int place, boolean fromLeft) {
    PaperGuild x = guildWith(length);
    x.fold(0, 0, place, fromLeft);
    return x;
  }

  private static void placesOfCellsInRange() {
    for (int length : LENGTHS) {
      PaperGuild x = foldedOnce(length, 1, true);
      for (int cell : noCellsOf(length)) {
        due("cell " + cell + " of " + length, INDEX, () -> x.placeOf(0, cell));
      }
      due("the first of " + length, 0, () -> x.placeOf(0, 0));
      due("the last of " + length, length - 2, () -> x.placeOf(0, length - 1));
    }
    due("a cell above the number of places", 0, () -> foldedOnce(8, 4, false).placeOf(0, 7));
  }

  private static void turnsOfCellsInRange() {
    for (int length : LENGTHS) {
      PaperGuild x = foldedOnce(length, 1, true);
      for (int cell : noCellsOf(length)) {
        due("cell " + cell + " of " + length, INDEX, () -> x.isTurned(0, cell));
      }
      due("the first of " + length, true, () -> x.isTurned(0, 0));
      due("the last of " + length, false, () -> x.isTurned(0, length - 1));
    }
    due("a cell above the number of places", true, () -> foldedOnce(8, 4, false).isTurned(0, 7));
  }

  private static void followedAsItLies() {
    for (int length = 2; length <= 32; length += 3) {
      PaperGuild x = guildWith(length);
      for (int step = 0; step < 10 && x.places(0) > 1; step++) {
        x.fold(0, 0, 1 + (step * 7 + length) % (x.places(0) - 1), (step + length) % 3 != 0);
        for (int place = 0; place < x.places(0); place++) {
          for (int height = 0; height < x.layers(0); height++) {
            int p = place;
            String cell = cellOrNothing(x, place, height);
            if (!cell.isEmpty()) {
              due("cell " + cell, p, () -> x.placeOf(0, Integer.parseInt(cell)));
            }
          }
        }
      }
    }
  }

  private static String cellOrNothing(PaperGuild x, int place, int height) {
    String cell = said(() -> x.cellAt(0, place, height));
    return cell.equals(INDEX) ? "" : cell;
  }

  private static void turnedAnOddNumber() {
    PaperGuild x = guildWith(32);
    for (int times = 0; times <= 10; times++) {
      int t = times;
      due("the first, turned " + t, t % 2 == 1, () -> x.isTurned(0, 0));
      due("the second, turned " + Math.max(0, t - 1), t > 0 && t % 2 == 0, () -> x.isTurned(0, 1));
      due("the last, never", false, () -> x.isTurned(0, 31));
      if (t < 10) {
        x.fold(0, 0, 1, true);
      }
    }
    x.unfold(0);
    due("nine times", true, () -> x.isTurned(0, 0));
    PaperGuild right = guildWith(5);
    right.fold(0, 0, 1, false);
    due("right of the fold", true, () -> right.isTurned(0, 1));
    due("left of the fold", false, () -> right.isTurned(0, 0));
    right.fold(0, 0, 1, false);
    due("the last cell came first and stays", true, () -> right.isTurned(0, 4));
    due("turned back", false, () -> right.isTurned(0, 3));
    due("turned for the first time", true, () -> right.isTurned(0, 0));
  }

  // ---- promise 17

  private static void agesInRange() {
    PaperGuild x = guildWith(2);
    due("new", true, () -> x.bears(0, 0));
    due("the oldest", true, () -> x.bears(0, 20));
    due("below new", ARGUMENT, () -> x.bears(0, -1));
    due("above the oldest", ARGUMENT, () -> x.bears(0, 21));
    x.fold(0, 0, 1, true);
    due("the oldest bears one", false, () -> x.bears(0, 20));
    due("a year less bears two", true, () -> x.bears(0, 19));
    due("still out of range", ARGUMENT, () -> x.bears(0, 21));
    due("far out of range", ARGUMENT, () -> x.bears(0, LOW));
  }

  // ---- promises 18 to 20

  private static void kindsFromNoneToAll() {
    PaperGuild x = guildWith(32);
    due("none", 0, () -> x.kindsOf(0));
    for (int kind = 7; kind >= 0; kind--) {
      int k = kind;
      x.fold(0, k, 1, true);
      due("from " + k + " on", 256 - (1 << k), () -> x.kindsOf(0));
    }
    x.fold(0, 3, 1, true);
    due("one of them twice", 255, () -> x.kindsOf(0));
    x.unfold(0);
    due("one of the two taken away", 255, () -> x.kindsOf(0));
    x.unfold(0);
    due("the only one taken away", 254, () -> x.kindsOf(0));
    x.addModel(0, 2);
    x.use(1, 0);
    due("all of the one that it uses", 254, () -> x.kindsOf(1));
    due("who uses counts for nobody", 254, () -> x.kindsOf(0));
  }

  private static void examOfNoKinds() {
    PaperGuild x = guildWith(2);
    due("nothing counts", true, () -> x.mayFold(5, 0));
    x.setNeeds(0, bits(1));
    due("needs alone do not count", true, () -> x.mayFold(5, 0));
  }

  private static void lessonsOfNoKinds() {
    PaperGuild x = guildWith(2);
    due("nothing counts", 0, () -> x.lessons(5, 0));
    x.setNeeds(0, bits(1));
    due("needs alone do not count", 0, () -> x.lessons(5, 0));
  }

  /** A model of all kinds, and pupil 3, who knows all but one. */
  private static PaperGuild schoolLacking(int missing) {
    PaperGuild x = guildWith(32);
    for (int kind = 0; kind < 8; kind++) {
      x.fold(0, kind, 1, true);
      if (kind != missing) {
        x.teach(3, kind);
      }
    }
    return x;
  }

  private static void examOfAllKinds() {
    for (int missing = 0; missing < 8; missing++) {
      PaperGuild x = schoolLacking(missing);
      due("all but " + missing, false, () -> x.mayFold(3, 0));
      x.teach(3, missing);
      due("all", true, () -> x.mayFold(3, 0));
      due("another pupil", false, () -> x.mayFold(2, 0));
    }
  }

  private static void lessonsOfAllKinds() {
    for (int missing = 0; missing < 8; missing++) {
      PaperGuild x = schoolLacking(missing);
      due("all but " + missing, 1, () -> x.lessons(3, 0));
      x.teach(3, missing);
      due("all", 0, () -> x.lessons(3, 0));
      due("another pupil", 8, () -> x.lessons(2, 0));
    }
  }

  private static void lessonsByWayOfNeeds() {
    PaperGuild x = guildWith(2);
    x.fold(0, 0, 1, true);
    for (int kind = 0; kind < 7; kind++) {
      int k = kind;
      due("a row of " + (k + 1), k + 1, () -> x.lessons(0, 0));
      x.setNeeds(k, bits(k + 1));
    }
    due("a row of 8", 8, () -> x.lessons(0, 0));
    x.teach(0, 7);
    due("its end is known", 7, () -> x.lessons(0, 0));
    for (int kind = 6; kind >= 0; kind--) {
      int k = kind;
      x.teach(0, k);
      due("known from " + k + " on", k, () -> x.lessons(0, 0));
    }
    PaperGuild fork = guildWith(2);
    fork.fold(0, 7, 1, true);
    fork.setNeeds(7, bits(1, 2));
    fork.setNeeds(1, bits(0));
    fork.setNeeds(2, bits(0));
    due("what two need is taught once", 4, () -> fork.lessons(0, 0));
  }

  private static void lessonsBehindWhatIsKnown() {
    PaperGuild x = guildWith(8);
    x.fold(0, 0, 1, true);
    x.teach(0, 1);
    x.setNeeds(1, bits(2));
    x.setNeeds(0, bits(1));
    due("a known kind needs no lesson, nor do its needs", 1, () -> x.lessons(0, 0));
    due("as the lessons themselves show", 2, () -> x.teach(0, 0));
    due("none left", 0, () -> x.lessons(0, 0));
    due("another pupil has to learn them all", 3, () -> x.lessons(1, 0));
  }

  // ---- promise 21

  private static void creditFromNoneToSeven() {
    PaperGuild x = new PaperGuild();
    x.addModel(9, 2);
    due("used by none", 0, () -> x.credit(9));
    for (int model = 1; model < 8; model++) {
      int m = model;
      x.addModel(m, 2);
      x.use(m, m - 1);
      due("up to " + m, m, () -> x.credit(9));
    }
    for (int model = 2; model < 8; model++) {
      x.use(model, 0);
    }
    due("directly too, counted once", 7, () -> x.credit(9));
    due("an author without a model", 0, () -> x.credit(8));
    due("the last of the row", 0, () -> x.credit(7));
  }

  // ---- promises 22 to 24

  /** Each row: the length of the roll, the set, and what fewestPieces, ways and leastRest answer. */
  private static final int[][] NO_ROLL = {
    {0, 0, 0, 1, 0}, {0, 1, 0, 1, 0}, {0, EVERY_LENGTH, 0, 1, 0},
  };
  private static final int[][] NOTHING_IN_DEMAND = {
    {1, 0, -1, 0, 1}, {200, 0, -1, 0, 200},
  };
  private static final int[][] SOME_LENGTHS = {
    {6, lengths(1, 3, 4), 2, 4, 0}, {30, lengths(1, 15, 20), 2, 4, 0}, {40, lengths(7, 13, 20), 2, 3, 0},
    {3, lengths(1, 2), 2, 2, 0}, {4, lengths(1, 2, 3, 4), 1, 5, 0}, {20, EVERY_LENGTH, 1, 627, 0},
    {21, EVERY_LENGTH, 2, 791, 0}, {200, lengths(1), 200, 1, 0}, {200, lengths(20), 10, 1, 0},
  };
  private static final int[][] NEVER_WITHOUT_A_REST = {
    {23, lengths(5, 7), -1, 0, 1}, {1, lengths(2, 20), -1, 0, 1}, {200, lengths(19), -1, 0, 10},
    {199, lengths(2, 4, 6, 8, 10, 12, 14, 16, 18, 20), -1, 0, 1}, {19, lengths(20), -1, 0, 19},
  };

  private static int[][] oneLengthInDemand() {
    int[][] rows = new int[120][];
    int filled = 0;
    for (int piece = 1; piece <= 20; piece++) {
      for (int length : new int[] {1, piece - 1, piece, piece + 1, 199, 200}) {
        int rest = length % piece;
        rows[filled] = new int[] {length, lengths(piece), rest == 0 ? length / piece : -1, rest == 0 ? 1 : 0, rest};
        filled++;
      }
    }
    return rows;
  }

  private static void cut(int[][] rows, int column, Change ask) {
    PaperGuild again = new PaperGuild();
    for (int[] row : rows) {
      PaperGuild x = new PaperGuild();
      x.setRoll(row[0], row[1]);
      again.setRoll(row[0], row[1]);
      String what = row[0] + " by " + Integer.toBinaryString(row[1]);
      due(what, row[column], () -> ask.answer(x));
      due(what + ", asked twice", row[column], () -> ask.answer(x));
      due(what + ", behind other rolls", row[column], () -> ask.answer(again));
    }
  }

  private static void cutEach(String words, int[][] rows) {
    test("22: " + words, () -> cut(rows, 2, x -> x.fewestPieces()));
    test("23: " + words, () -> cut(rows, 3, x -> x.ways()));
    test("24: " + words, () -> cut(rows, 4, x -> x.leastRest()));
  }

  private static void waysModulo() {
    ways(105, 942573, 1000006, "1000006");
    ways(130, 994518, 0, "1000007");
    ways(123, 833265, 1, "1000008");
  }

  private static void ways(int length, int set, int want, String whole) {
    due("all ways of " + length + " by " + set, whole, () -> allWays(length, set, 20));
    PaperGuild x = new PaperGuild();
    x.setRoll(length, set);
    due("modulo 1000007", want, () -> x.ways());
  }

  private static long allWays(int length, int set, int longest) {
    long[][] told = new long[longest + 1][length + 1];
    told[0][0] = 1;
    for (int piece = 1; piece <= longest; piece++) {
      for (int l = 0; l <= length; l++) {
        boolean isCut = (set >> (piece - 1) & 1) != 0 && l >= piece;
        told[piece][l] = told[piece - 1][l] + (isCut ? told[piece][l - piece] : 0);
      }
    }
    return told[longest][length];
  }

  private static void longestRoll() {
    PaperGuild x = new PaperGuild();
    x.setRoll(200, EVERY_LENGTH);
    due("fewestPieces", 10, () -> x.fewestPieces());
    due("leastRest", 0, () -> x.leastRest());
    x.setRoll(199, EVERY_LENGTH);
    due("one less", 10, () -> x.fewestPieces());
    x.setRoll(200, EVERY_LENGTH - lengths(20));
    due("without the longest piece", 11, () -> x.fewestPieces());
  }

  private static void waysOfTheLongestRoll() {
    PaperGuild x = new PaperGuild();
    x.setRoll(200, EVERY_LENGTH);
    due("the longest", allWays(200, EVERY_LENGTH, 20) % 1000007, () -> x.ways());
    x.setRoll(199, EVERY_LENGTH);
    due("a shorter one behind it", allWays(199, EVERY_LENGTH, 20) % 1000007, () -> x.ways());
    x.setRoll(0, EVERY_LENGTH);
    due("none behind it", 1, () -> x.ways());
  }

  private static void leastRestAsked() {
    PaperGuild x = new PaperGuild();
    x.setRoll(200, lengths(1));
    x.fewestPieces();
    x.setRoll(200, lengths(17, 19));
    due("six of 19 and five of 17", 1, () -> x.leastRest());
    x.setRoll(16, lengths(17, 19));
    due("shorter than each", 16, () -> x.leastRest());
    x.setRoll(18, lengths(17, 19));
    due("between both", 1, () -> x.leastRest());
    x.setRoll(33, lengths(17, 19));
    due("not the longest first", 14, () -> x.leastRest());
    x.setRoll(34, lengths(17, 19));
    due("two of the shorter", 0, () -> x.leastRest());
    x.setRoll(35, lengths(17, 19));
    due("two of the shorter, one is left", 1, () -> x.leastRest());
  }

  public static void main(String[] args) {
    test("1: No models", BoundariesTest::newNoModels);
    test("1: kinds without needs", BoundariesTest::newNoNeeds);
    test("1: a roll of the length 0; no lengths in demand", BoundariesTest::newRoll);
    test("1: nobody knows anything", BoundariesTest::newNobodyKnows);
    test("2: needs, 0 to 255", BoundariesTest::needsInRange);
    test("2: a kind that would need itself", BoundariesTest::needsItself);
    test("2: Returns what it needed before", BoundariesTest::neededBefore);
    test("2: kinds would need one another round", BoundariesTest::needsRoundInEachOrder);
    test("3: author, length, number", BoundariesTest::addedAtTheEdges);
    test("3: if there are 8", BoundariesTest::addedWhenThereAreEight);
    test("4: place, 1 to the number of places less 1", BoundariesTest::foldAtEachPlace);
    test("4: Returns the number of places then", BoundariesTest::foldAnswersThePlacesThen);
    test("4: if it has 10 steps", BoundariesTest::foldTenSteps);
    test("4: a kind that this one needs is not among those of its steps", BoundariesTest::foldOfEachNeed);
    test("4: the tenth step behind its need", BoundariesTest::foldAsTheTenthBehindItsNeed);
    test("5: Takes the last step away, returns its kind", BoundariesTest::unfoldOneByOne);
    test("5: a model with 10 steps", BoundariesTest::unfoldOfAFullModel);
    test("5: if it has no steps", BoundariesTest::unfoldOfOneModel);
    test("5: whatever needs its kind", BoundariesTest::unfoldThoughItsKindIsNeeded);
    test("6: if models would use one another round, two and itself", BoundariesTest::useOfEachPair);
    test("6: Returns whether it did not use it directly so far", BoundariesTest::useDirectlySoFar);
    test("6: if models would use one another round, up to eight", BoundariesTest::useRoundByLongWays);
    test("7: length, 0 to 200", BoundariesTest::rollInRange);
    test("7: set, 0 to 1048575", BoundariesTest::setInRange);
    test("7: Sets the roll, and the lengths", BoundariesTest::rollReplaced);
    test("8: Returns how many kinds the pupil knows then", BoundariesTest::teachAllKinds);
    test("8: if the pupil does not know all that the kind needs", BoundariesTest::teachBehindNeeds);
    test("9: how many models there are", BoundariesTest::countModels);
    test("10: how many steps a model has", BoundariesTest::countSteps);
    test("11: the number of places behind all steps", BoundariesTest::countPlaces);
    test("12: the layers of a model", () -> countLayers((x, model) -> x.layers(model)));
    test("16: the layers, by following each cell", () -> countLayers((x, model) -> x.layersByFollowing(model)));
    test("13: no such place, or not so many cells", BoundariesTest::cellsAtTheEdges);
    test("13: as many cells at a place as there are", BoundariesTest::thirtyTwoCellsAtOnePlace);
    test("14: cell, 0 to the length less 1", BoundariesTest::placesOfCellsInRange);
    test("15: cell, 0 to the length less 1", BoundariesTest::turnsOfCellsInRange);
    test("14: found by following it alone", BoundariesTest::followedAsItLies);
    test("15: whether it was turned an odd number of times", BoundariesTest::turnedAnOddNumber);
    test("17: age, 0 to 20", BoundariesTest::agesInRange);
    test("18: the kinds that count, none to all", BoundariesTest::kindsFromNoneToAll);
    test("19: no kinds", BoundariesTest::examOfNoKinds);
    test("19: all kinds", BoundariesTest::examOfAllKinds);
    test("20: no kinds", BoundariesTest::lessonsOfNoKinds);
    test("20: all kinds", BoundariesTest::lessonsOfAllKinds);
    test("20: the least number of lessons, by way of needs", BoundariesTest::lessonsByWayOfNeeds);
    test("20: the least number of lessons, behind what is known", BoundariesTest::lessonsBehindWhatIsKnown);
    test("21: the credit, none to seven", BoundariesTest::creditFromNoneToSeven);
    cutEach("no roll", NO_ROLL);
    cutEach("nothing in demand", NOTHING_IN_DEMAND);
    cutEach("one length in demand", oneLengthInDemand());
    cutEach("some lengths in demand", SOME_LENGTHS);
    cutEach("it cannot be cut without a rest", NEVER_WITHOUT_A_REST);
    test("22: the fewest pieces of the longest roll", BoundariesTest::longestRoll);
    test("23: modulo 1000007", BoundariesTest::waysModulo);
    test("23: the ways of the longest roll", BoundariesTest::waysOfTheLongestRoll);
    test("24: the least rest", BoundariesTest::leastRestAsked);
    finish("the promises hold at their boundaries");
  }
}
