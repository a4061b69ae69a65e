/** Every row of folds of every short strip, beside cells that are told by their place and their rise alone. */
public final class EveryFoldTest extends Checks {
  private static final int LONGEST = 6;

  /** No stacks and no lists: where a cell lies, how far above the table, and how often it was turned. */
  private static final class Cells {
    final int[] place;
    final int[] rise;
    final int[] turns;

    Cells(int length) {
      place = new int[length];
      rise = new int[length];
      turns = new int[length];
      for (int cell = 0; cell < length; cell++) {
        place[cell] = cell;
      }
    }

    Cells folded(int at, boolean fromLeft) {
      Cells then = new Cells(place.length);
      int top = greatest(rise);
      int lowest = Integer.MAX_VALUE;
      for (int cell = 0; cell < place.length; cell++) {
        boolean moves = fromLeft == (place[cell] < at);
        then.place[cell] = moves ? 2 * at - 1 - place[cell] : place[cell];
        then.rise[cell] = moves ? 2 * top + 1 - rise[cell] : rise[cell];
        then.turns[cell] = turns[cell] + (moves ? 1 : 0);
        lowest = Math.min(lowest, then.place[cell]);
      }
      for (int cell = 0; cell < place.length; cell++) {
        then.place[cell] -= lowest;
      }
      return then;
    }

    int places() {
      return greatest(place) + 1;
    }

    /** How many cells lie at the place of a cell below it. */
    int heightOf(int cell) {
      int below = 0;
      for (int other = 0; other < place.length; other++) {
        below += place[other] == place[cell] && rise[other] < rise[cell] ? 1 : 0;
      }
      return below;
    }

    int layers() {
      int greatest = 0;
      for (int cell = 0; cell < place.length; cell++) {
        greatest = Math.max(greatest, heightOf(cell) + 1);
      }
      return greatest;
    }

    private static int greatest(int[] row) {
      int greatest = row[0];
      for (int number : row) {
        greatest = Math.max(greatest, number);
      }
      return greatest;
    }
  }

  private static void compare(PaperGuild x, Cells cells, int most) {
    int layers = cells.layers();
    due("places", cells.places(), () -> x.places(0));
    due("layers", layers, () -> x.layers(0));
    due("layersByFollowing", layers, () -> x.layersByFollowing(0));
    for (int cell = 0; cell < cells.place.length; cell++) {
      int c = cell;
      due("placeOf " + c, cells.place[c], () -> x.placeOf(0, c));
      due("isTurned " + c, cells.turns[c] % 2 != 0, () -> x.isTurned(0, c));
      due("cellAt of " + c, c, () -> x.cellAt(0, cells.place[c], cells.heightOf(c)));
    }
    for (int age = 16; age <= 20; age++) {
      int a = age;
      due("bears " + a, most <= Math.max(1, 40 - 2 * a), () -> x.bears(0, a));
    }
  }

  /** A fold leaves one place less at least, so a strip of six has at most five steps. */
  private static void everyFoldFrom(PaperGuild x, Cells cells, int most, int steps) {
    compare(x, cells, most);
    for (int place = 1; place < cells.places(); place++) {
      for (int side = 0; side < 2; side++) {
        int p = place;
        boolean fromLeft = side == 0;
        Cells then = cells.folded(p, fromLeft);
        due("fold at " + p + " from the left: " + fromLeft, then.places(), () -> x.fold(0, steps, p, fromLeft));
        everyFoldFrom(x, then, Math.max(most, then.layers()), steps + 1);
        due("unfold", steps, () -> x.unfold(0));
      }
    }
    compare(x, cells, most);
  }

  public static void main(String[] args) {
    for (int length = 2; length <= LONGEST; length++) {
      int l = length;
      test("every row of folds of " + l + " cells", () -> everyFoldFrom(guildWith(l), new Cells(l), 1, 0));
    }
    finish("every row of folds lies as it is due");
  }
}
