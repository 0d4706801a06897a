import java.io.IOException;
import java.lang.reflect.Method;
import java.lang.reflect.Modifier;
import java.nio.charset.StandardCharsets;
import java.nio.file.DirectoryStream;
import java.nio.file.Files;
import java.nio.file.Path;
import java.nio.file.Paths;
import java.util.ArrayList;
import java.util.List;
import java.util.regex.Matcher;
import java.util.regex.Pattern;

/** README.md: its example is run here, and answers what is told there; all calls and all tests are named. */
public final class ReadmeTest {
    private static final Check check = new Check();
    private static final Pattern TOLD = Pattern.compile("int (\\w+) = .*; +// (-?\\d+): .*");

    public static void main(String[] args) throws IOException {
        List<String> page = linesOf("README.md");
        List<String> example = linesBetween(page, "```java", "```");
        List<String> here = linesBetween(linesOf("src/test/java/ReadmeTest.java"), "// README begins", "// README ends");
        check.due("the example is that of README.md", String.join("\n", here), String.join("\n", example));
        answersAreAsTold(example);
        allIsNamed(String.join("\n", page));
        check.end();
    }

    private static void answersAreAsTold(List<String> example) {
        StringBuilder told = new StringBuilder();
        for (String line : example) {
            Matcher matcher = TOLD.matcher(line);
            if (matcher.matches()) {
                told.append(matcher.group(1)).append(' ').append(matcher.group(2)).append('\n');
            } else {
                check.due(line + " tells no answer", line.startsWith("int "), false);
            }
        }
        check.test("the example", () -> check.due("it", exampleAnswers(), told.toString()));
    }

    private static String exampleAnswers() {
        // README begins
        CelHouse house = new CelHouse();

        int top = house.key();                                 // 0: the first drawing
        house.pen(2, 2);
        int strokes = house.stroke(top, 0, 8, 2, 1);           // 1: a line from (2, 2) to (8, 2), in the colour name 1
        int bottom = house.key();                              // 1: the next drawing
        house.pen(2, 10);
        house.stroke(bottom, 0, 8, 10, 1);
        int middle = house.between(top, bottom, 1, 2);         // 2: one of two parts of the way; its line is in the row 6

        int scene = house.scene(6, 0);                         // 0: six frames, in the palette 0
        house.expose(scene, 1, 0, top);                        // the level 1 has the first key at the frames 0 and 1,
        house.expose(scene, 1, 2, middle);                     // the in-between at the frames 2 and 3,
        house.expose(scene, 1, 4, CelHouse.CYCLE + 4);         // and what it had four frames ago from the frame 4 on
        int there = house.has(scene, 1, 5);                    // 0: the first key
        int colour = house.seen(scene, 2, 5, 6);               // 2: the palette's colour of the name 1

        int peg = house.peg(CelHouse.NONE);                    // 0: a peg that no other one carries
        house.move(peg, 0, 0, 0);
        int places = house.move(peg, 4, 8, 0);                 // 2: places are told for the frames 0 and 4
        house.hang(scene, 1, peg, 1);                          // the level 1 is on the peg, at the depth 1
        int moved = house.moved(scene, 1, 2, true);            // 4: points to the right, half the way

        int shots = house.shoot(scene);                        // 6: all frames
        house.stroke(bottom, 0, 8, 9, 1);                      // the stroke 0 anew, from where the pen is
        int stale = house.stale(scene);                        // 2: the frames with the in-between, which follows its keys
        int hanging = house.approve(bottom, true);             // 2: frames hang on it; calls don't change it now
        int faults = house.faults(scene, 0);                   // 0: none

        int hand = house.hand(2);                              // 0: a hand with the speed 2
        int hours = house.hours(hand);                         // 2: two keys, an hour each
        house.splice(scene);
        int length = house.splice(scene);                      // 12: the film has the scene twice
        int where = house.film(7);                             // 1: the frame 1 of the scene 0
        // README ends
        return "top " + top + "\nstrokes " + strokes + "\nbottom " + bottom + "\nmiddle " + middle + "\nscene " + scene
            + "\nthere " + there + "\ncolour " + colour + "\npeg " + peg + "\nplaces " + places + "\nmoved " + moved
            + "\nshots " + shots + "\nstale " + stale + "\nhanging " + hanging + "\nfaults " + faults + "\nhand " + hand
            + "\nhours " + hours + "\nlength " + length + "\nwhere " + where + "\n";
    }

    private static void allIsNamed(String page) throws IOException {
        for (Method method : CelHouse.class.getDeclaredMethods()) {
            if (Modifier.isPublic(method.getModifiers())) {
                check.due("README.md names " + method.getName(), page.contains("`" + method.getName() + "`"), true);
            }
        }
        try (DirectoryStream<Path> files = Files.newDirectoryStream(Paths.get("src/test/java"), "*.java")) {
            for (Path file : files) {
                String name = file.getFileName().toString().replace(".java", "");
                check.due("README.md names " + name, page.contains("`" + name + "`"), true);
            }
        }
        check.due("README.md tells how to run the tests", page.contains("    .ci/run\n"), true);
    }

    private static List<String> linesOf(String file) throws IOException {
        return Files.readAllLines(Paths.get(file), StandardCharsets.UTF_8);
    }

    private static List<String> linesBetween(List<String> lines, String begin, String end) {
        List<String> between = new ArrayList<>();
        boolean isInside = false;
        for (String line : lines) {
            String text = line.trim();
            if (isInside && text.equals(end)) {
                break;
            }
            if (isInside) {
                between.add(text);
            }
            isInside |= text.equals(begin);
        }
        return between;
    }
}
