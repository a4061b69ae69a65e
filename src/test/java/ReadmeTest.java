import java.io.IOException;
import java.nio.file.Files;
import java.nio.file.Path;
import java.util.ArrayList;
import java.util.List;

/** The example of README.md: it stands there as it is tested here, and each answer that it tells is given. */
public final class ReadmeTest extends Checks {
  private static final List<String> tested = new ArrayList<>();

  /** Takes a call as README.md writes it, with the answer that its comment begins with. */
  private static void line(String call, Object want, Call asked) {
    tested.add(call + " // " + want);
    due(call, want, asked);
  }

  private static void example() {
    PaperGuild guild = new PaperGuild();
    int crane = 0;
    int box = 1;
    line("int crane = guild.addModel(0, 6);", 0, () -> guild.addModel(0, 6));
    line("guild.fold(crane, 3, 2, true);", 4, () -> guild.fold(crane, 3, 2, true));
    line("guild.layers(crane);", 2, () -> guild.layers(crane));
    line("guild.cellAt(crane, 0, 1);", 1, () -> guild.cellAt(crane, 0, 1));
    line("guild.isTurned(crane, 1);", true, () -> guild.isTurned(crane, 1));
    line("guild.bears(crane, 20);", false, () -> guild.bears(crane, 20));
    line("int box = guild.addModel(1, 8);", 1, () -> guild.addModel(1, 8));
    line("guild.use(box, crane);", true, () -> guild.use(box, crane));
    line("guild.kindsOf(box);", 8, () -> guild.kindsOf(box));
    line("guild.credit(0);", 1, () -> guild.credit(0));
    line("guild.setNeeds(3, 0b1);", 0, () -> guild.setNeeds(3, 0b1));
    line("guild.lessons(5, box);", 2, () -> guild.lessons(5, box));
    line("guild.teach(5, 0);", 1, () -> guild.teach(5, 0));
    line("guild.mayFold(5, box);", false, () -> guild.mayFold(5, box));
    line("guild.setRoll(6, 0b1101);", 0, () -> guild.setRoll(6, 0b1101));
    line("guild.fewestPieces();", 2, () -> guild.fewestPieces());
    line("guild.ways();", 4, () -> guild.ways());
    line("guild.leastRest();", 0, () -> guild.leastRest());
  }

  /** The lines of the example that tell an answer, without what the comment says behind it. */
  private static List<String> written() throws IOException {
    List<String> lines = new ArrayList<>();
    for (String line : Files.readAllLines(Path.of("README.md"))) {
      int comment = line.indexOf("; ");
      int told = line.indexOf("// ");
      if (comment >= 0 && told > comment) {
        String answer = line.substring(told + 3).split("[: ]")[0];
        lines.add(line.substring(0, comment + 1) + " // " + answer);
      }
    }
    return lines;
  }

  public static void main(String[] args) throws IOException {
    List<String> written = written();
    test("The example of README.md", ReadmeTest::example);
    due("the lines of README.md", tested, () -> written);
    finish("the example of README.md answers as it tells");
  }
}
