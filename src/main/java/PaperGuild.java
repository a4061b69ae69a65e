/** A guild of folders of paper strips, with a mill and a school. Sets of kinds and of models are kept as bits. */
public final class PaperGuild {
  private static final int KINDS = 8;
  private static final int ALL_KINDS = 255;
  private static final int MOST_MODELS = 8;
  private static final int AUTHORS = 10;
  private static final int PUPILS = 6;
  private static final int SHORTEST_STRIP = 2;
  private static final int LONGEST_STRIP = 32;
  private static final int MOST_STEPS = 10;
  private static final int OLDEST_PAPER = 20;
  private static final int NEW_PAPER_BEARS = 40;
  private static final int LOST_EACH_YEAR = 2;
  private static final int LONGEST_ROLL = 200;
  private static final int LONGEST_PIECE = 20;
  private static final int ALL_PIECES = 1048575;
  private static final int WAYS_MODULUS = 1000007;

  private final int[] needed = new int[KINDS];
  private final int[] known = new int[PUPILS];
  private final Model[] guildModels = new Model[MOST_MODELS];
  private final int[] used = new int[MOST_MODELS];
  private int modelCount = 0;
  private final Follower follower = new Follower();
  private final int[] followedHeights = new int[LONGEST_STRIP];
  private final Mill mill = new Mill();

  public PaperGuild() {
  }

  // ---- kinds

  public int setNeeds(int kind, int needs) throws IndexOutOfBoundsException, IllegalArgumentException {
    checkKind(kind);
    if (needs < 0 || needs > ALL_KINDS) {
      throw new IllegalArgumentException("needs out of range");
    }
    // What was needed so far holds no round, so a new one must lead from the new needs back to the kind.
    if (holds(reached(needs, needed, ALL_KINDS), kind)) {
      throw new IllegalArgumentException("kinds would need one another round");
    }
    int before = needed[kind];
    needed[kind] = needs;
    return before;
  }

  // ---- models

  public int addModel(int author, int length)
      throws IndexOutOfBoundsException, IllegalArgumentException, IllegalStateException {
    checkAuthor(author);
    if (length < SHORTEST_STRIP || length > LONGEST_STRIP) {
      throw new IllegalArgumentException("length out of range");
    }
    if (modelCount >= MOST_MODELS) {
      throw new IllegalStateException("no room for another model");
    }
    guildModels[modelCount] = new Model(author, length);
    modelCount++;
    return modelCount - 1;
  }

  public int fold(int model, int kind, int place, boolean fromLeft)
      throws IndexOutOfBoundsException, IllegalArgumentException, IllegalStateException {
    Model folded = modelAt(model);
    checkKind(kind);
    if (place < 1 || place > folded.stacks.span - 1) {
      throw new IllegalArgumentException("place out of range");
    }
    if (folded.stepCount >= MOST_STEPS) {
      throw new IllegalStateException("no room for another step");
    }
    if (lacksAny(folded.ownKinds(), needed[kind])) {
      throw new IllegalStateException("a kind that is needed is missing");
    }
    folded.addStep(kind, place, fromLeft);
    return folded.stacks.span;
  }

  public int unfold(int model) throws IndexOutOfBoundsException, IllegalStateException {
    Model unfolded = modelAt(model);
    if (unfolded.stepCount == 0) {
      throw new IllegalStateException("no steps");
    }
    return unfolded.removeLastStep();
  }

  public boolean use(int model, int other) throws IndexOutOfBoundsException, IllegalArgumentException {
    checkModel(model);
    checkModel(other);
    if (holds(modelsCountedFor(other), model)) {
      throw new IllegalArgumentException("models would use one another round");
    }
    boolean isNew = !holds(used[model], other);
    used[model] |= 1 << other;
    return isNew;
  }

  // ---- the mill and the school

  public int setRoll(int length, int set) throws IllegalArgumentException {
    if (length < 0 || length > LONGEST_ROLL) {
      throw new IllegalArgumentException("length out of range");
    }
    if (set < 0 || set > ALL_PIECES) {
      throw new IllegalArgumentException("set out of range");
    }
    int before = mill.rollLength;
    mill.rollLength = length;
    mill.demanded = set;
    return before;
  }

  public int teach(int pupil, int kind) throws IndexOutOfBoundsException, IllegalStateException {
    checkPupil(pupil);
    checkKind(kind);
    if (lacksAny(known[pupil], needed[kind])) {
      throw new IllegalStateException("a kind that is needed is not known");
    }
    known[pupil] |= 1 << kind;
    return Integer.bitCount(known[pupil]);
  }

  // ---- what there is; nothing from here on changes anything

  public int models() {
    return modelCount;
  }

  public int steps(int model) throws IndexOutOfBoundsException {
    return modelAt(model).stepCount;
  }

  public int places(int model) throws IndexOutOfBoundsException {
    return modelAt(model).stacks.span;
  }

  public int layers(int model) throws IndexOutOfBoundsException {
    return modelAt(model).stacks.greatestHeight();
  }

  public int cellAt(int model, int place, int height) throws IndexOutOfBoundsException {
    Stacks stacks = modelAt(model).stacks;
    if (place < 0 || place >= stacks.span) {
      throw new IndexOutOfBoundsException("no such place");
    }
    if (height < 0 || height >= stacks.heightAt(place)) {
      throw new IndexOutOfBoundsException("not so many cells");
    }
    return stacks.cellIn(place, height);
  }

  public int placeOf(int model, int cell) throws IndexOutOfBoundsException {
    Model followed = modelAt(model);
    checkCell(followed, cell);
    follower.follow(followed, cell);
    return follower.place;
  }

  public boolean isTurned(int model, int cell) throws IndexOutOfBoundsException {
    Model followed = modelAt(model);
    checkCell(followed, cell);
    follower.follow(followed, cell);
    return follower.turned;
  }

  public int layersByFollowing(int model) throws IndexOutOfBoundsException {
    Model followed = modelAt(model);
    for (int place = 0; place < followedHeights.length; place++) {
      followedHeights[place] = 0;
    }
    int greatest = 0;
    for (int cell = 0; cell < followed.length; cell++) {
      follower.follow(followed, cell);
      int place = follower.place;
      if (place >= 0 && place < followedHeights.length) {
        followedHeights[place]++;
        greatest = Math.max(greatest, followedHeights[place]);
      }
    }
    return greatest;
  }

  public boolean bears(int model, int age) throws IndexOutOfBoundsException, IllegalArgumentException {
    Model folded = modelAt(model);
    if (age < 0 || age > OLDEST_PAPER) {
      throw new IllegalArgumentException("age out of range");
    }
    int borne = Math.max(1, NEW_PAPER_BEARS - LOST_EACH_YEAR * age);
    // A fold never takes a stack apart, so at no time were there more layers than there are now.
    return folded.stacks.greatestHeight() <= borne;
  }

  // ---- teaching and credit

  public int kindsOf(int model) throws IndexOutOfBoundsException {
    checkModel(model);
    return kindsCountedFor(model);
  }

  public boolean mayFold(int pupil, int model) throws IndexOutOfBoundsException {
    checkPupil(pupil);
    checkModel(model);
    return !lacksAny(known[pupil], kindsCountedFor(model));
  }

  public int lessons(int pupil, int model) throws IndexOutOfBoundsException {
    checkPupil(pupil);
    checkModel(model);
    // A kind that is known needs no lesson, even if its needs were set later and are not known: the walk ends there.
    int unknown = ALL_KINDS & ~known[pupil];
    return Integer.bitCount(reached(kindsCountedFor(model), needed, unknown));
  }

  public int credit(int author) throws IndexOutOfBoundsException {
    checkAuthor(author);
    int ofAuthor = modelsOf(author);
    int count = 0;
    for (int model = 0; model < modelCount; model++) {
      if (!holds(ofAuthor, model) && (modelsCountedFor(model) & ofAuthor) != 0) {
        count++;
      }
    }
    return count;
  }

  // ---- cutting

  public int fewestPieces() {
    return mill.fewestForRoll();
  }

  public int ways() {
    return mill.waysForRoll();
  }

  public int leastRest() {
    return mill.restOfRoll();
  }

  // ---- what the calls above share

  private void checkKind(int kind) {
    if (kind < 0 || kind >= KINDS) {
      throw new IndexOutOfBoundsException("no such kind");
    }
  }

  private void checkAuthor(int author) {
    if (author < 0 || author >= AUTHORS) {
      throw new IndexOutOfBoundsException("no such author");
    }
  }

  private void checkPupil(int pupil) {
    if (pupil < 0 || pupil >= PUPILS) {
      throw new IndexOutOfBoundsException("no such pupil");
    }
  }

  private void checkModel(int model) {
    if (model < 0 || model >= modelCount) {
      throw new IndexOutOfBoundsException("no such model");
    }
  }

  private void checkCell(Model model, int cell) {
    if (cell < 0 || cell >= model.length) {
      throw new IndexOutOfBoundsException("no such cell");
    }
  }

  private Model modelAt(int model) {
    checkModel(model);
    Model found = guildModels[model];
    if (found == null) {
      throw new IndexOutOfBoundsException("no such model");
    }
    return found;
  }

  private int modelsOf(int author) {
    int bits = 0;
    for (int model = 0; model < modelCount; model++) {
      if (modelAt(model).author == author) {
        bits |= 1 << model;
      }
    }
    return bits;
  }

  /** The model itself and all that it uses, directly or by way of others. */
  private int modelsCountedFor(int model) {
    return reached(1 << model, used, -1);
  }

  private int kindsCountedFor(int model) {
    int counted = modelsCountedFor(model);
    int kinds = 0;
    for (int other = 0; other < modelCount; other++) {
      if (holds(counted, other)) {
        kinds |= modelAt(other).ownKinds();
      }
    }
    return kinds;
  }

  private static boolean holds(int bits, int number) {
    return (bits >> number & 1) != 0;
  }

  private static boolean lacksAny(int bits, int wanted) {
    return (wanted & ~bits) != 0;
  }

  /** What is reached from some numbers by the links of each, themselves too, on ways that stay in the numbers within. */
  private static int reached(int from, int[] links, int within) {
    int bits = from & within;
    // Every round but the last adds a number, so as many rounds as there are numbers suffice.
    for (int round = 0; round < links.length; round++) {
      for (int number = 0; number < links.length; number++) {
        if (holds(bits, number)) {
          bits |= links[number] & within;
        }
      }
    }
    return bits;
  }

  /** A strip with the steps that fold it, and how its cells lie behind all of them. */
  private static final class Model {
    final int author;
    final int length;
    final int[] stepKinds = new int[MOST_STEPS];
    final int[] stepPlaces = new int[MOST_STEPS];
    final boolean[] stepsFromLeft = new boolean[MOST_STEPS];
    int stepCount = 0;
    final Stacks stacks;

    Model(int author, int length) {
      this.author = author;
      this.length = length;
      stacks = new Stacks();
      stacks.layFlat(length);
    }

    int ownKinds() {
      int kinds = 0;
      for (int step = 0; step < stepCount; step++) {
        kinds |= 1 << stepKinds[step];
      }
      return kinds;
    }

    void addStep(int kind, int place, boolean fromLeft) {
      if (stepCount >= MOST_STEPS) {
        return;
      }
      stepKinds[stepCount] = kind;
      stepPlaces[stepCount] = place;
      stepsFromLeft[stepCount] = fromLeft;
      stepCount++;
      stacks.turnOver(place, fromLeft);
    }

    /** Takes the last step away and answers its kind; -1 if there is none. */
    int removeLastStep() {
      if (stepCount <= 0) {
        return -1;
      }
      stepCount--;
      stacks.layFlat(length);
      for (int step = 0; step < stepCount; step++) {
        stacks.turnOver(stepPlaces[step], stepsFromLeft[step]);
      }
      return stepKinds[stepCount];
    }
  }

  /** The cells of a strip in one row, place by place and upwards at each; the cells of place k begin at starts[k]. */
  private static final class Stacks {
    private int[] cells = new int[LONGEST_STRIP];
    private int[] starts = new int[LONGEST_STRIP + 1];
    private int[] nextCells = new int[LONGEST_STRIP];
    private int[] nextStarts = new int[LONGEST_STRIP + 1];
    private int filled = 0;
    int span = 0;

    void layFlat(int length) {
      span = Math.max(0, Math.min(length, LONGEST_STRIP));
      for (int cell = 0; cell < span; cell++) {
        cells[cell] = cell;
        starts[cell] = cell;
      }
      starts[span] = span;
    }

    void turnOver(int place, boolean fromLeft) {
      if (place < 1 || place >= span) {
        return;
      }
      int lowest = fromLeft ? place : Math.min(0, 2 * place - span);
      int nextSpan = Math.max(place, span - place);
      filled = 0;
      for (int next = 0; next < nextSpan; next++) {
        nextStarts[next] = filled;
        int staying = lowest + next;
        copyUpwards(staying);
        copyDownwards(2 * place - 1 - staying);
      }
      nextStarts[nextSpan] = filled;
      span = nextSpan;
      swapRows();
    }

    int heightAt(int place) {
      return isPlace(place) ? starts[place + 1] - starts[place] : 0;
    }

    /** The cell at a place and a height; -1 if there is none. */
    int cellIn(int place, int height) {
      if (height < 0 || height >= heightAt(place)) {
        return -1;
      }
      return cells[starts[place] + height];
    }

    int greatestHeight() {
      int greatest = 0;
      for (int place = 0; place < span; place++) {
        greatest = Math.max(greatest, heightAt(place));
      }
      return greatest;
    }

    private boolean isPlace(int place) {
      return place >= 0 && place < span;
    }

    private void copyUpwards(int place) {
      if (isPlace(place)) {
        for (int at = starts[place]; at < starts[place + 1]; at++) {
          copyCell(at);
        }
      }
    }

    private void copyDownwards(int place) {
      if (isPlace(place)) {
        for (int at = starts[place + 1] - 1; at >= starts[place]; at--) {
          copyCell(at);
        }
      }
    }

    private void copyCell(int at) {
      if (at >= 0 && at < cells.length && filled < nextCells.length) {
        nextCells[filled] = cells[at];
        filled++;
      }
    }

    private void swapRows() {
      int[] oldCells = cells;
      int[] oldStarts = starts;
      cells = nextCells;
      starts = nextStarts;
      nextCells = oldCells;
      nextStarts = oldStarts;
    }
  }

  /** Follows one cell through the steps of a model, without the stacks. */
  private static final class Follower {
    int place = 0;
    boolean turned = false;
    private int span = 0;

    void follow(Model model, int cell) {
      place = cell;
      turned = false;
      span = model.length;
      for (int step = 0; step < model.stepCount; step++) {
        takeStep(model.stepPlaces[step], model.stepsFromLeft[step]);
      }
    }

    private void takeStep(int foldPlace, boolean fromLeft) {
      boolean isLeftOfFold = place < foldPlace;
      if (isLeftOfFold == fromLeft) {
        place = 2 * foldPlace - 1 - place;
        turned = !turned;
      }
      int lowest = fromLeft ? foldPlace : Math.min(0, 2 * foldPlace - span);
      place -= lowest;
      span = Math.max(foldPlace, span - foldPlace);
    }
  }

  /** The roll and the lengths in demand; each answer fills a table over all lengths up to that of the roll. */
  private static final class Mill {
    int rollLength = 0;
    int demanded = 0;
    private final int[] fewest = new int[LONGEST_ROLL + 1];
    private final int[] waysTo = new int[LONGEST_ROLL + 1];

    /** The fewest pieces that are as long as the roll together; -1 if none are. */
    int fewestForRoll() {
      fillFewest();
      return fewest[rollLength];
    }

    int restOfRoll() {
      fillFewest();
      int cut = rollLength;
      while (cut > 0 && fewest[cut] < 0) {
        cut--;
      }
      return rollLength - cut;
    }

    int waysForRoll() {
      waysTo[0] = 1;
      for (int length = 1; length <= rollLength; length++) {
        waysTo[length] = 0;
      }
      // Piece by piece, so that each way is counted in one order of its pieces only.
      for (int piece = 1; piece <= LONGEST_PIECE; piece++) {
        if (isDemanded(piece)) {
          addWaysWith(piece);
        }
      }
      return waysTo[rollLength];
    }

    private void addWaysWith(int piece) {
      for (int length = piece; length <= rollLength; length++) {
        waysTo[length] = (waysTo[length] + waysTo[length - piece]) % WAYS_MODULUS;
      }
    }

    private void fillFewest() {
      fewest[0] = 0;
      for (int length = 1; length <= rollLength; length++) {
        fewest[length] = fewestFor(length);
      }
    }

    /** The fewest pieces for a length, from those for all shorter ones. */
    private int fewestFor(int length) {
      int best = -1;
      for (int piece = 1; piece <= LONGEST_PIECE && piece <= length; piece++) {
        int before = isDemanded(piece) ? fewest[length - piece] : -1;
        if (before >= 0 && (best < 0 || before + 1 < best)) {
          best = before + 1;
        }
      }
      return best;
    }

    private boolean isDemanded(int piece) {
      return holds(demanded, piece - 1);
    }
  }
}
