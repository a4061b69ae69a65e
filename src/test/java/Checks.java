/** What the tests of the promises share: calls whose answers are compared with those that are due. */
abstract class Checks {
  static final String INDEX = "IndexOutOfBoundsException";
  static final String ARGUMENT = "IllegalArgumentException";
  static final String STATE = "IllegalStateException";
  static final int LOW = Integer.MIN_VALUE;
  static final int HIGH = Integer.MAX_VALUE;

  private static int wrong = 0;
  private static int asked = 0;
  static String subject = "";

  interface Call {
    Object answer();
  }

  interface Change {
    Object answer(PaperGuild guild);
  }

  /** A test of one sentence of the document (or of one promise), whose words stand before each wrong answer. */
  static void test(String words, Runnable test) {
    subject = words;
    int before = asked;
    test.run();
    if (asked == before) {
      wrong++;
      System.out.println(words + ": nothing was asked");
    }
  }

  static String said(Call call) {
    try {
      return String.valueOf(call.answer());
    } catch (RuntimeException e) {
      return e.getClass().getSimpleName();
    }
  }

  static void due(String what, Object want, Call call) {
    asked++;
    String got = said(call);
    if (!got.equals(String.valueOf(want))) {
      wrong++;
      System.out.println(subject + ": " + what + " answered " + got + ", due is " + want);
    }
  }

  static int bits(int... numbers) {
    int bits = 0;
    for (int number : numbers) {
      bits |= 1 << number;
    }
    return bits;
  }

  /** The set of lengths in demand, each told by its own bit: the length 1 by 1, the length 2 by 2, the length 3 by 4. */
  static int lengths(int... lengths) {
    int set = 0;
    for (int length : lengths) {
      set += 1 << (length - 1);
    }
    return set;
  }

  static PaperGuild guildWith(int length) {
    PaperGuild x = new PaperGuild();
    x.addModel(0, length);
    return x;
  }

  /** Places from 0 on, parted by |, the cells of each from the lowest up. */
  static String table(PaperGuild x, int model) {
    StringBuilder text = new StringBuilder();
    for (int place = 0; place < x.places(model); place++) {
      text.append(place == 0 ? "" : "|");
      for (int height = 0; ; height++) {
        try {
          text.append(height == 0 ? "" : " ").append(x.cellAt(model, place, height));
        } catch (IndexOutOfBoundsException e) {
          text.setLength(height == 0 ? text.length() : text.length() - 1);
          break;
        }
      }
    }
    return text.toString();
  }

  static void finish(String allWell) {
    System.out.println(wrong == 0 ? asked + " answers: " + allWell : wrong + " answers are not as due");
    if (wrong != 0) {
      System.exit(1);
    }
  }
}
