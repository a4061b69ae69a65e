/** What the document says, promise by promise: ordinary inputs, the edges that it names, and wrong inputs. */
public final class PromisesTest extends Checks {
  private static void aNewObject() {
    PaperGuild x = new PaperGuild();
    due("models", 0, () -> x.models());
    due("fewestPieces", 0, () -> x.fewestPieces());
    due("ways", 1, () -> x.ways());
    due("leastRest", 0, () -> x.leastRest());
    for (int author = 0; author < 10; author++) {
      int a = author;
      due("credit " + a, 0, () -> x.credit(a));
    }
    for (int kind = 0; kind < 8; kind++) {
      int k = kind;
      due("setNeeds " + k, 0, () -> x.setNeeds(k, 0));
    }
    x.addModel(0, 2);
    x.fold(0, 3, 1, true);
    for (int pupil = 0; pupil < 6; pupil++) {
      int p = pupil;
      due("mayFold " + p, false, () -> x.mayFold(p, 0));
      due("lessons " + p, 1, () -> x.lessons(p, 0));
    }
    due("setRoll of a new object", 0, () -> x.setRoll(7, 0));
    due("no lengths in demand then", -1, () -> x.fewestPieces());
    PaperGuild other = new PaperGuild();
    due("another object is new, too", 0, () -> other.models());
  }

  private static void setNeeds() {
    PaperGuild x = new PaperGuild();
    due("first", 0, () -> x.setNeeds(0, bits(1, 2)));
    due("again", bits(1, 2), () -> x.setNeeds(0, bits(1)));
    due("all others", 0, () -> x.setNeeds(7, bits(0, 1, 2, 3, 4, 5, 6)));
    due("itself", ARGUMENT, () -> x.setNeeds(4, bits(4)));
    due("round of two", ARGUMENT, () -> x.setNeeds(1, bits(0)));
    x.setNeeds(1, bits(2));
    due("round of three", ARGUMENT, () -> x.setNeeds(2, bits(0)));
    due("round of four by 7", ARGUMENT, () -> x.setNeeds(2, bits(7)));
    due("nothing changed", 0, () -> x.setNeeds(2, 0));
    due("taken back", bits(1), () -> x.setNeeds(0, 0));
    due("no round any more", 0, () -> x.setNeeds(2, bits(0)));
    due("kind -1", INDEX, () -> x.setNeeds(-1, 0));
    due("kind 8", INDEX, () -> x.setNeeds(8, 0));
    due("kind 8, wrong needs", INDEX, () -> x.setNeeds(8, 256));
    due("kind low", INDEX, () -> x.setNeeds(LOW, -1));
    due("kind high", INDEX, () -> x.setNeeds(HIGH, -1));
    due("needs -1", ARGUMENT, () -> x.setNeeds(3, -1));
    due("needs 256", ARGUMENT, () -> x.setNeeds(3, 256));
    due("needs low", ARGUMENT, () -> x.setNeeds(3, LOW));
    due("needs 255 hold the kind", ARGUMENT, () -> x.setNeeds(3, 255));
    due("unchanged", 0, () -> x.setNeeds(3, 0));
    PaperGuild chain = new PaperGuild();
    for (int kind = 7; kind > 0; kind--) {
      chain.setNeeds(kind, bits(kind - 1));
    }
    due("round of eight", ARGUMENT, () -> chain.setNeeds(0, bits(7)));
    PaperGuild rising = new PaperGuild();
    for (int kind = 0; kind < 7; kind++) {
      rising.setNeeds(kind, bits(kind + 1));
    }
    due("round of eight, rising", ARGUMENT, () -> rising.setNeeds(7, bits(0)));
  }

  private static void addModel() {
    PaperGuild x = new PaperGuild();
    due("author -1", INDEX, () -> x.addModel(-1, 2));
    due("author 10", INDEX, () -> x.addModel(10, 2));
    due("author 10, length 1", INDEX, () -> x.addModel(10, 1));
    due("length 1", ARGUMENT, () -> x.addModel(0, 1));
    due("length 33", ARGUMENT, () -> x.addModel(0, 33));
    due("length low", ARGUMENT, () -> x.addModel(0, LOW));
    due("length high", ARGUMENT, () -> x.addModel(0, HIGH));
    due("nothing added", 0, () -> x.models());
    due("first", 0, () -> x.addModel(0, 2));
    due("second", 1, () -> x.addModel(9, 32));
    due("places of the first", 2, () -> x.places(0));
    due("places of the second", 32, () -> x.places(1));
    for (int number = 2; number < 8; number++) {
      int n = number;
      due("number " + n, n, () -> x.addModel(0, 3));
    }
    due("ninth", STATE, () -> x.addModel(0, 3));
    due("ninth, length 1", ARGUMENT, () -> x.addModel(0, 1));
    due("ninth, author 10", INDEX, () -> x.addModel(10, 3));
    due("models", 8, () -> x.models());
  }

  private static void foldPlaces() {
    PaperGuild x = guildWith(6);
    due("left at 2", 4, () -> x.fold(0, 0, 2, true));
    due("table", "2 1|3 0|4|5", () -> table(x, 0));
    due("right at 3", 3, () -> x.fold(0, 0, 3, false));
    due("table", "2 1|3 0|4 5", () -> table(x, 0));
    due("left at 2 of 3, reaches beyond", 2, () -> x.fold(0, 0, 2, true));
    due("table", "4 5 0 3|1 2", () -> table(x, 0));
    due("right at 1", 1, () -> x.fold(0, 0, 1, false));
    due("table", "4 5 0 3 2 1", () -> table(x, 0));
    due("one place is left", ARGUMENT, () -> x.fold(0, 0, 1, true));
    PaperGuild y = guildWith(5);
    due("right at 1 of 5, reaches beyond", 4, () -> y.fold(0, 0, 1, false));
    due("table", "4|3|2|0 1", () -> table(y, 0));
    PaperGuild z = guildWith(5);
    due("left at 4 of 5", 4, () -> z.fold(0, 0, 4, true));
    due("table", "4 3|2|1|0", () -> table(z, 0));
    PaperGuild even = guildWith(4);
    due("right at the middle", 2, () -> even.fold(0, 0, 2, false));
    due("table", "0 3|1 2", () -> table(even, 0));
  }

  private static void foldWrongly() {
    PaperGuild x = guildWith(32);
    due("model -1", INDEX, () -> x.fold(-1, 0, 1, true));
    due("model 1", INDEX, () -> x.fold(1, 0, 1, true));
    due("kind -1", INDEX, () -> x.fold(0, -1, 1, true));
    due("kind 8", INDEX, () -> x.fold(0, 8, 1, true));
    due("kind 8, place 0", INDEX, () -> x.fold(0, 8, 0, true));
    due("place 0", ARGUMENT, () -> x.fold(0, 0, 0, true));
    due("place 32", ARGUMENT, () -> x.fold(0, 0, 32, false));
    due("place low", ARGUMENT, () -> x.fold(0, 0, LOW, true));
    due("place high", ARGUMENT, () -> x.fold(0, 0, HIGH, false));
    x.setNeeds(1, bits(0, 2));
    x.setNeeds(2, bits(3));
    due("needs missing", STATE, () -> x.fold(0, 1, 1, true));
    due("needs missing, place 0", ARGUMENT, () -> x.fold(0, 1, 0, true));
    x.fold(0, 0, 1, true);
    due("one need missing", STATE, () -> x.fold(0, 1, 1, true));
    x.addModel(0, 4);
    x.fold(1, 3, 1, true);
    x.fold(1, 2, 1, true);
    x.use(0, 1);
    due("a kind of a used model is not its own", STATE, () -> x.fold(0, 1, 1, true));
    due("nothing changed", 1, () -> x.steps(0));
    due("nothing changed", 31, () -> x.places(0));
    x.fold(0, 3, 1, true);
    x.fold(0, 2, 1, true);
    due("all needs there", 28, () -> x.fold(0, 1, 1, true));
    for (int step = 4; step < 10; step++) {
      x.fold(0, 0, 1, true);
    }
    due("eleventh step", STATE, () -> x.fold(0, 0, 1, true));
    due("eleventh step, place 22", ARGUMENT, () -> x.fold(0, 0, 22, true));
    due("eleventh step, kind 8", INDEX, () -> x.fold(0, 8, 22, true));
    due("ten steps", 10, () -> x.steps(0));
    PaperGuild y = guildWith(8);
    y.setNeeds(2, bits(1));
    y.fold(0, 0, 1, true);
    y.setNeeds(1, bits(5));
    y.setNeeds(0, bits(1));
    due("needs set behind a step leave it, and only direct ones count", 6, () -> {
      y.setNeeds(3, bits(0));
      return y.fold(0, 3, 1, true);
    });
    due("a kind among its steps needs again", STATE, () -> y.fold(0, 0, 1, true));
  }

  private static void unfold() {
    PaperGuild x = guildWith(6);
    due("no steps", STATE, () -> x.unfold(0));
    due("model 1", INDEX, () -> x.unfold(1));
    due("model -1", INDEX, () -> x.unfold(-1));
    x.fold(0, 4, 2, true);
    x.fold(0, 5, 3, false);
    x.fold(0, 6, 2, true);
    due("the last kind", 6, () -> x.unfold(0));
    due("table", "2 1|3 0|4 5", () -> table(x, 0));
    due("place of 0", 1, () -> x.placeOf(0, 0));
    due("the kind before", 5, () -> x.unfold(0));
    due("table", "2 1|3 0|4|5", () -> table(x, 0));
    due("kinds", bits(4), () -> x.kindsOf(0));
    due("another fold", 3, () -> x.fold(0, 7, 1, true));
    due("table", "3 0 1 2|4|5", () -> table(x, 0));
    x.unfold(0);
    due("the first kind", 4, () -> x.unfold(0));
    due("table", "0|1|2|3|4|5", () -> table(x, 0));
    due("none left", STATE, () -> x.unfold(0));
    x.setNeeds(1, bits(0));
    x.fold(0, 0, 1, true);
    x.unfold(0);
    due("a kind taken away is no earlier one", STATE, () -> x.fold(0, 1, 1, true));
  }

  private static void use() {
    PaperGuild x = new PaperGuild();
    due("no models", INDEX, () -> x.use(0, 0));
    for (int model = 0; model < 4; model++) {
      x.addModel(model, 4);
    }
    due("itself", ARGUMENT, () -> x.use(0, 0));
    due("new", true, () -> x.use(0, 1));
    due("again", false, () -> x.use(0, 1));
    due("round of two", ARGUMENT, () -> x.use(1, 0));
    due("chain", true, () -> x.use(1, 2));
    due("known by way of 1, not directly", true, () -> x.use(0, 2));
    due("longer chain", true, () -> x.use(2, 3));
    due("round of four", ARGUMENT, () -> x.use(3, 0));
    due("round of three", ARGUMENT, () -> x.use(3, 1));
    due("model 4", INDEX, () -> x.use(4, 0));
    due("other 4", INDEX, () -> x.use(0, 4));
    due("model -1", INDEX, () -> x.use(-1, 0));
    due("other -1", INDEX, () -> x.use(0, -1));
    due("both 4", INDEX, () -> x.use(4, 4));
    x.fold(3, 6, 1, true);
    due("nothing but the chain counts for 3", bits(6), () -> x.kindsOf(3));
    PaperGuild both = new PaperGuild();
    for (int model = 0; model < 3; model++) {
      both.addModel(0, 4);
      both.fold(model, model, 1, true);
    }
    both.use(0, 1);
    both.use(0, 2);
    due("two at once", bits(0, 1, 2), () -> both.kindsOf(0));
    due("the first of two, again", false, () -> both.use(0, 1));
    due("the second of two, again", false, () -> both.use(0, 2));
    PaperGuild y = new PaperGuild();
    for (int model = 0; model < 8; model++) {
      y.addModel(0, 2);
    }
    for (int model = 7; model > 0; model--) {
      y.use(model, model - 1);
    }
    due("round of eight", ARGUMENT, () -> y.use(0, 7));
  }

  private static void setRoll() {
    PaperGuild x = new PaperGuild();
    due("first", 0, () -> x.setRoll(10, bits(2)));
    due("then", 10, () -> x.setRoll(200, 1048575));
    due("then", 200, () -> x.setRoll(6, bits(2)));
    due("length -1", ARGUMENT, () -> x.setRoll(-1, 0));
    due("length 201", ARGUMENT, () -> x.setRoll(201, 0));
    due("set -1", ARGUMENT, () -> x.setRoll(7, -1));
    due("set 1048576", ARGUMENT, () -> x.setRoll(7, 1048576));
    due("set low", ARGUMENT, () -> x.setRoll(7, LOW));
    due("length high", ARGUMENT, () -> x.setRoll(HIGH, 0));
    due("pieces of 3 still cut 6", 2, () -> x.fewestPieces());
    due("nothing changed", 6, () -> x.setRoll(0, 0));
  }

  private static void teach() {
    PaperGuild x = guildWith(8);
    x.setNeeds(1, bits(0));
    x.setNeeds(2, bits(1));
    due("needs missing", STATE, () -> x.teach(0, 1));
    due("first", 1, () -> x.teach(0, 0));
    due("second", 2, () -> x.teach(0, 1));
    due("known already", 2, () -> x.teach(0, 1));
    due("third", 3, () -> x.teach(0, 2));
    due("another pupil", STATE, () -> x.teach(5, 2));
    due("another pupil", 1, () -> x.teach(5, 7));
    due("pupil 6", INDEX, () -> x.teach(6, 0));
    due("pupil -1", INDEX, () -> x.teach(-1, 0));
    due("kind 8", INDEX, () -> x.teach(0, 8));
    due("kind -1", INDEX, () -> x.teach(0, -1));
    x.setNeeds(0, bits(6));
    due("known, but its needs are not any more", STATE, () -> x.teach(0, 0));
    due("only direct needs count", 3, () -> x.teach(0, 1));
    x.fold(0, 7, 1, true);
    due("a refused lesson teaches nothing", false, () -> x.mayFold(0, 0));
  }

  private static void modelsAndSteps() {
    PaperGuild x = new PaperGuild();
    for (int model = 0; model < 8; model++) {
      int m = model;
      due("models", m, () -> x.models());
      due("steps of none", INDEX, () -> x.steps(m));
      x.addModel(0, 12);
      due("steps of a new one", 0, () -> x.steps(m));
    }
    due("models", 8, () -> x.models());
    subject = "promise 10";
    due("steps -1", INDEX, () -> x.steps(-1));
    due("steps 8", INDEX, () -> x.steps(8));
    due("steps low", INDEX, () -> x.steps(LOW));
    for (int step = 1; step <= 10; step++) {
      int s = step;
      x.fold(3, 0, 1, true);
      due("steps", s, () -> x.steps(3));
    }
    x.unfold(3);
    due("steps", 9, () -> x.steps(3));
    due("steps of another", 0, () -> x.steps(4));
  }

  private static void places() {
    PaperGuild x = guildWith(9);
    due("model 1", INDEX, () -> x.places(1));
    due("model -1", INDEX, () -> x.places(-1));
    due("flat", 9, () -> x.places(0));
    x.fold(0, 0, 6, true);
    due("left at 6", 6, () -> x.places(0));
    x.fold(0, 0, 2, false);
    due("right at 2", 4, () -> x.places(0));
    x.fold(0, 0, 2, false);
    due("right at 2", 2, () -> x.places(0));
    x.unfold(0);
    due("unfolded", 4, () -> x.places(0));
  }

  private static void layers() {
    PaperGuild x = guildWith(32);
    due("model 1", INDEX, () -> x.layers(1));
    due("model -1", INDEX, () -> x.layers(-1));
    due("flat", 1, () -> x.layers(0));
    int expected = 1;
    for (int place = 16; place >= 1; place /= 2) {
      x.fold(0, 0, place, place % 3 == 0);
      expected *= 2;
      int e = expected;
      due("halved", e, () -> x.layers(0));
    }
    x.unfold(0);
    due("unfolded", 16, () -> x.layers(0));
    PaperGuild y = guildWith(5);
    y.fold(0, 0, 1, true);
    y.fold(0, 0, 3, false);
    due("two places of two", 2, () -> y.layers(0));
    y.fold(0, 0, 1, true);
    due("greatest counts", 3, () -> y.layers(0));
  }

  private static void cellAt() {
    PaperGuild x = guildWith(6);
    x.fold(0, 0, 2, true);
    due("lowest", 2, () -> x.cellAt(0, 0, 0));
    due("above", 1, () -> x.cellAt(0, 0, 1));
    due("lowest", 3, () -> x.cellAt(0, 1, 0));
    due("above", 0, () -> x.cellAt(0, 1, 1));
    due("last place", 5, () -> x.cellAt(0, 3, 0));
    due("place 4", INDEX, () -> x.cellAt(0, 4, 0));
    due("place -1", INDEX, () -> x.cellAt(0, -1, 0));
    due("height 2", INDEX, () -> x.cellAt(0, 0, 2));
    due("height 1 at a single cell", INDEX, () -> x.cellAt(0, 2, 1));
    due("height -1", INDEX, () -> x.cellAt(0, 0, -1));
    due("model 1", INDEX, () -> x.cellAt(1, 0, 0));
    due("model -1", INDEX, () -> x.cellAt(-1, 0, 0));
    due("all wrong", INDEX, () -> x.cellAt(HIGH, LOW, HIGH));
    due("place high", INDEX, () -> x.cellAt(0, HIGH, 0));
    due("height high", INDEX, () -> x.cellAt(0, 0, HIGH));
  }

  private static void following() {
    PaperGuild x = guildWith(6);
    x.fold(0, 0, 2, true);
    x.fold(0, 0, 3, false);
    x.fold(0, 0, 2, true);
    int[] places = {0, 1, 1, 0, 0, 0};
    boolean[] turned = {false, false, true, true, false, true};
    for (int cell = 0; cell < 6; cell++) {
      int c = cell;
      subject = "promise 14";
      due("placeOf " + c, places[c], () -> x.placeOf(0, c));
      subject = "promise 15";
      due("isTurned " + c, turned[c], () -> x.isTurned(0, c));
    }
    PaperGuild y = guildWith(5);
    y.fold(0, 0, 1, false);
    for (int cell = 0; cell < 5; cell++) {
      int c = cell;
      subject = "promise 14";
      due("placeOf beyond " + c, c == 0 ? 3 : 4 - c, () -> y.placeOf(0, c));
      subject = "promise 15";
      due("isTurned beyond " + c, c > 0, () -> y.isTurned(0, c));
    }
    subject = "promise 15";
    due("isTurned, asked behind another cell", true, () -> x.isTurned(0, 2));
    due("isTurned, asked behind another cell", false, () -> x.isTurned(0, 1));
    subject = "promise 14";
    PaperGuild again = guildWith(5);
    again.fold(0, 0, 1, true);
    again.fold(0, 0, 1, false);
    int[] placesAgain = {2, 2, 2, 1, 0};
    for (int cell = 0; cell < 5; cell++) {
      int c = cell;
      due("placeOf behind a second fold " + c, placesAgain[c], () -> again.placeOf(0, c));
    }
    for (int cell : new int[] {-1, 6, LOW, HIGH}) {
      subject = "promise 14";
      due("placeOf " + cell, INDEX, () -> x.placeOf(0, cell));
      subject = "promise 15";
      due("isTurned " + cell, INDEX, () -> x.isTurned(0, cell));
    }
    for (int model : new int[] {-1, 1, HIGH}) {
      subject = "promise 14";
      due("placeOf in " + model, INDEX, () -> x.placeOf(model, 0));
      subject = "promise 15";
      due("isTurned in " + model, INDEX, () -> x.isTurned(model, 0));
    }
    subject = "promise 16";
    due("by following", 4, () -> x.layersByFollowing(0));
    due("by following", 2, () -> y.layersByFollowing(0));
    due("by following again", 4, () -> x.layersByFollowing(0));
    x.unfold(0);
    due("by following, unfolded", 2, () -> x.layersByFollowing(0));
    due("by following, flat", 1, () -> guildWith(32).layersByFollowing(0));
    due("model 1", INDEX, () -> x.layersByFollowing(1));
    due("model -1", INDEX, () -> x.layersByFollowing(-1));
  }

  private static void bears() {
    PaperGuild x = guildWith(32);
    due("model 1", INDEX, () -> x.bears(1, 0));
    due("model 1, age 21", INDEX, () -> x.bears(1, 21));
    due("model -1, age -1", INDEX, () -> x.bears(-1, -1));
    due("age -1", ARGUMENT, () -> x.bears(0, -1));
    due("age 21", ARGUMENT, () -> x.bears(0, 21));
    due("age high", ARGUMENT, () -> x.bears(0, HIGH));
    due("flat and oldest", true, () -> x.bears(0, 20));
    x.fold(0, 0, 16, true);
    due("two layers, 19 years", true, () -> x.bears(0, 19));
    due("two layers, 20 years", false, () -> x.bears(0, 20));
    x.fold(0, 0, 8, false);
    x.fold(0, 0, 4, false);
    due("eight layers, 16 years", true, () -> x.bears(0, 16));
    due("eight layers, 17 years", false, () -> x.bears(0, 17));
    x.fold(0, 0, 2, true);
    x.fold(0, 0, 1, true);
    due("32 layers, new", true, () -> x.bears(0, 0));
    due("32 layers, 4 years", true, () -> x.bears(0, 4));
    due("32 layers, 5 years", false, () -> x.bears(0, 5));
    x.addModel(0, 2);
    x.use(1, 0);
    due("a used model lies elsewhere", true, () -> x.bears(1, 20));
    x.unfold(0);
    due("unfolded", true, () -> x.bears(0, 12));
  }

  private static PaperGuild school() {
    PaperGuild x = new PaperGuild();
    for (int model = 0; model < 4; model++) {
      x.addModel(model, 8);
    }
    x.setNeeds(1, bits(0));
    x.setNeeds(2, bits(1));
    x.fold(0, 3, 1, true);
    x.fold(1, 0, 1, true);
    x.fold(1, 1, 1, true);
    x.fold(2, 5, 1, true);
    x.use(0, 1);
    x.use(1, 2);
    return x;
  }

  private static void kindsOf() {
    PaperGuild x = school();
    due("its own and all by way of others", bits(0, 1, 3, 5), () -> x.kindsOf(0));
    due("one less", bits(0, 1, 5), () -> x.kindsOf(1));
    due("its own", bits(5), () -> x.kindsOf(2));
    due("none", 0, () -> x.kindsOf(3));
    x.setNeeds(5, bits(7));
    due("needs do not count", bits(5), () -> x.kindsOf(2));
    x.unfold(2);
    due("taken away", bits(0, 1, 3), () -> x.kindsOf(0));
    due("model 4", INDEX, () -> x.kindsOf(4));
    due("model -1", INDEX, () -> x.kindsOf(-1));
  }

  private static void mayFold() {
    PaperGuild x = school();
    due("no kinds", true, () -> x.mayFold(0, 3));
    due("not yet", false, () -> x.mayFold(0, 2));
    x.teach(0, 5);
    due("then", true, () -> x.mayFold(0, 2));
    due("another pupil", false, () -> x.mayFold(1, 2));
    x.teach(0, 3);
    due("its own alone are not enough", false, () -> x.mayFold(0, 0));
    x.teach(0, 0);
    x.teach(0, 1);
    due("all", true, () -> x.mayFold(0, 0));
    x.setNeeds(5, bits(7));
    due("needs do not count", true, () -> x.mayFold(0, 0));
    due("pupil 6", INDEX, () -> x.mayFold(6, 0));
    due("pupil -1", INDEX, () -> x.mayFold(-1, 0));
    due("model 4", INDEX, () -> x.mayFold(0, 4));
    due("model -1", INDEX, () -> x.mayFold(0, -1));
  }

  private static void lessons() {
    PaperGuild x = school();
    due("none", 0, () -> x.lessons(0, 3));
    due("all that count", 4, () -> x.lessons(0, 0));
    x.setNeeds(5, bits(6));
    x.setNeeds(6, bits(7, 1));
    due("needs, and their needs, once each", 6, () -> x.lessons(0, 0));
    due("by way of needs", 5, () -> x.lessons(0, 2));
    x.teach(0, 0);
    x.teach(0, 7);
    due("what is known is left out", 4, () -> x.lessons(0, 0));
    x.teach(0, 1);
    x.teach(0, 6);
    x.teach(0, 5);
    due("one more", 1, () -> x.lessons(0, 0));
    due("another pupil", 6, () -> x.lessons(1, 0));
    x.setNeeds(5, bits(4));
    due("needs of a kind that is known are left out", 0, () -> x.lessons(0, 2));
    x.setNeeds(3, bits(5));
    due("a known kind ends the walk", 1, () -> x.lessons(0, 0));
    due("nothing was taught", false, () -> x.mayFold(0, 0));
    due("pupil 6", INDEX, () -> x.lessons(6, 0));
    due("pupil -1", INDEX, () -> x.lessons(-1, 0));
    due("model 4", INDEX, () -> x.lessons(0, 4));
    due("model -1", INDEX, () -> x.lessons(0, -1));
    PaperGuild chain = guildWith(2);
    for (int kind = 7; kind > 0; kind--) {
      chain.setNeeds(kind, bits(kind - 1));
    }
    chain.setNeeds(7, 0);
    chain.fold(0, 7, 1, true);
    chain.setNeeds(7, bits(6));
    due("eight in a row", 8, () -> chain.lessons(0, 0));
    PaperGuild rising = guildWith(2);
    rising.fold(0, 0, 1, true);
    for (int kind = 0; kind < 7; kind++) {
      rising.setNeeds(kind, bits(kind + 1));
    }
    due("eight in a row, rising", 8, () -> rising.lessons(0, 0));
  }

  private static void credit() {
    PaperGuild x = new PaperGuild();
    int[] authors = {0, 0, 1, 2, 9, 1};
    for (int author : authors) {
      x.addModel(author, 4);
    }
    due("none", 0, () -> x.credit(0));
    x.use(1, 0);
    due("its own do not count", 0, () -> x.credit(0));
    x.use(2, 1);
    due("once, though it uses two", 1, () -> x.credit(0));
    x.use(3, 2);
    due("by way of another", 2, () -> x.credit(0));
    due("directly", 1, () -> x.credit(1));
    x.use(4, 5);
    due("another model of the author", 2, () -> x.credit(1));
    due("not its own", 2, () -> x.credit(0));
    x.use(5, 3);
    due("by way of models of the user", 4, () -> x.credit(0));
    due("its own by way of others do not count", 2, () -> x.credit(1));
    due("of 2", 2, () -> x.credit(2));
    due("of 9", 0, () -> x.credit(9));
    due("of an author without models", 0, () -> x.credit(5));
    due("author 10", INDEX, () -> x.credit(10));
    due("author -1", INDEX, () -> x.credit(-1));
    PaperGuild back = new PaperGuild();
    back.addModel(3, 4);
    back.addModel(4, 4);
    back.addModel(3, 4);
    back.use(2, 1);
    back.use(1, 0);
    PaperGuild first = new PaperGuild();
    first.addModel(3, 4);
    first.addModel(4, 4);
    first.use(0, 1);
    due("a later model used by the first", 1, () -> first.credit(4));
    due("a way through another author back to the own", 1, () -> back.credit(3));
    due("of the one between", 1, () -> back.credit(4));
  }

  private static void cutting() {
    PaperGuild x = new PaperGuild();
    int[][] rows = {
      // length, set, fewest, ways, rest
      {0, 0, 0, 1, 0}, {0, 1048575, 0, 1, 0}, {5, 0, -1, 0, 5}, {200, 0, -1, 0, 200},
      {1, bits(0), 1, 1, 0}, {200, bits(0), 200, 1, 0}, {200, bits(19), 10, 1, 0}, {199, bits(19), -1, 0, 19},
      {6, bits(0, 2, 3), 2, 4, 0}, {5, bits(2, 3), -1, 0, 1}, {19, bits(19), -1, 0, 19}, {20, bits(19), 1, 1, 0},
      {10, bits(0, 1, 2, 3, 4, 5, 6, 7, 8, 9), 1, 42, 0}, {23, bits(4, 8), 3, 1, 0}, {11, bits(5, 8, 19), -1, 0, 2},
      {1, bits(1), -1, 0, 1}, {30, bits(6, 9, 14), 2, 2, 0},
    };
    for (int[] row : rows) {
      String what = "roll " + row[0] + " by " + Integer.toBinaryString(row[1]);
      x.setRoll(row[0], row[1]);
      subject = "promise 22";
      due(what, row[2], () -> x.fewestPieces());
      subject = "promise 23";
      due(what, row[3], () -> x.ways());
      subject = "promise 24";
      due(what, row[4], () -> x.leastRest());
    }
    x.setRoll(200, 1048575);
    subject = "promise 22";
    due("longest roll, all lengths", 10, () -> x.fewestPieces());
    subject = "promise 23";
    due("longest roll, all lengths", bigWays(200, 20), () -> x.ways());
    subject = "promise 24";
    due("longest roll, all lengths", 0, () -> x.leastRest());
    PaperGuild y = new PaperGuild();
    y.setRoll(30, bits(6));
    due("leastRest asked first", 2, () -> y.leastRest());
    y.setRoll(6, bits(6));
    due("shorter than each length", 6, () -> y.leastRest());
    subject = "promise 22";
    PaperGuild z = new PaperGuild();
    z.setRoll(1, bits(1));
    due("a length above the roll", -1, () -> z.fewestPieces());
    subject = "promise 23";
    x.setRoll(3, bits(0));
    due("a shorter roll behind a longer one", 1, () -> x.ways());
  }

  /** Counted whole by another way, over rising lengths and greatest pieces, and only then taken modulo. */
  private static String bigWays(int length, int longest) {
    java.math.BigInteger[][] table = new java.math.BigInteger[length + 1][longest + 1];
    for (int l = 0; l <= length; l++) {
      for (int piece = 0; piece <= longest; piece++) {
        if (piece == 0) {
          table[l][piece] = l == 0 ? java.math.BigInteger.ONE : java.math.BigInteger.ZERO;
        } else {
          table[l][piece] = table[l][piece - 1];
          if (l >= piece) {
            table[l][piece] = table[l][piece].add(table[l - piece][piece]);
          }
        }
      }
    }
    return table[length][longest].mod(java.math.BigInteger.valueOf(1000007)).toString();
  }

  public static void main(String[] args) {
    test("promise 1", PromisesTest::aNewObject);
    test("promise 2", PromisesTest::setNeeds);
    test("promise 3", PromisesTest::addModel);
    test("promise 4", PromisesTest::foldPlaces);
    test("promise 4", PromisesTest::foldWrongly);
    test("promise 5", PromisesTest::unfold);
    test("promise 6", PromisesTest::use);
    test("promise 7", PromisesTest::setRoll);
    test("promise 8", PromisesTest::teach);
    test("promise 9", PromisesTest::modelsAndSteps);
    test("promise 11", PromisesTest::places);
    test("promise 12", PromisesTest::layers);
    test("promise 13", PromisesTest::cellAt);
    test("promise 14", PromisesTest::following);
    test("promise 17", PromisesTest::bears);
    test("promise 18", PromisesTest::kindsOf);
    test("promise 19", PromisesTest::mayFold);
    test("promise 20", PromisesTest::lessons);
    test("promise 21", PromisesTest::credit);
    test("promise 22", PromisesTest::cutting);
    finish("all promises hold");
  }
}
