import java.io.IOException;
import java.nio.file.Files;
import java.nio.file.Path;
import java.util.ArrayList;
import java.util.List;

/** Makes the calls of the examples in README.md, line by line, and compares what they answer with what is said there. */
public final class ReadmeTest {
    private static final List<String> LINES = new ArrayList<>();

    private ReadmeTest() {
    }

    public static void main(String[] args) throws IOException {
        boolean inside = false;
        for (String line : Files.readAllLines(Path.of("README.md"))) {
            if (line.startsWith("```")) {
                inside = line.equals("```java");
            } else if (inside) {
                LINES.add(line.strip());
            }
        }
        OptionBlockPlanner planner = new OptionBlockPlanner();
        begins("OptionBlockPlanner planner = new OptionBlockPlanner();");
        school(planner);
        program(planner);
        lateChanges(planner);
        snapshot(planner);
        Check.due(0, "the lines of the examples that were not run", LINES::size);
        Check.end("ReadmeTest");
    }

    private static String comment(String line) {
        int at = line.indexOf("// ");
        return at < 0 ? "" : line.substring(at + 3);
    }

    /** The next line of the examples begins with this call; answers what its comment says. */
    private static String begins(String call) {
        String line = LINES.isEmpty() ? "" : LINES.remove(0);
        Check.due(true, "whether the example's line '" + line + "' is " + call, () -> line.startsWith(call));
        return comment(line);
    }

    /** The comment begins with the answer, or with what is put for it in quotes. */
    private static void says(String call, Object answer) {
        String comment = begins(call);
        String said = answer instanceof Character ? "'" + answer + "'" : String.valueOf(answer);
        Check.due(true, call + " answers " + said + ", but '" + comment + "' is said, whether that holds",
                () -> comment.equals(said) || comment.startsWith(said + " ") || comment.startsWith(said + ":"));
    }

    private static void school(OptionBlockPlanner planner) {
        begins("int art = planner.addSubject(2);");
        Check.due(0, "art", () -> planner.addSubject(2));
        begins("int music = planner.addSubject(1);");
        Check.due(1, "music", () -> planner.addSubject(1));
        begins("planner.openClass(art, 0);");
        planner.openClass(0, 0);
        begins("planner.openClass(music, 0);");
        planner.openClass(1, 0);
        begins("planner.openClass(music, 1);");
        planner.openClass(1, 1);
        begins("int ann = planner.addPupil();");
        Check.due(0, "ann", () -> planner.addPupil());
        begins("planner.addWish(ann, art);");
        planner.addWish(0, 0);
        begins("planner.addWish(ann, music);");
        planner.addWish(0, 1);
        says("planner.enrol(ann);", planner.enrol(0));
        says("planner.writeTimetable(ann);", planner.writeTimetable(0));
        Check.due("0: 0 1 -", "ann's timetable", () -> Schools.line(planner, 0));
        says("planner.lineAt(3);", planner.lineAt(3));
        begins("planner.undo();");
        planner.undo();
        Check.due("0: - - -", "ann's timetable", () -> Schools.line(planner, 0));
    }

    private static void program(OptionBlockPlanner planner) {
        begins("for (char character : \"pupil;wish 1 1;join 1 0\".toCharArray()) {");
        begins("planner.type(character);");
        begins("}");
        Schools.type(planner, "pupil;wish 1 1;join 1 0");
        says("planner.execute();", planner.execute());
    }

    private static void lateChanges(OptionBlockPlanner planner) {
        begins("planner.closeClass(music, 0);");
        planner.closeClass(1, 0);
        says("planner.join(ann, music);", planner.join(0, 1));
        Check.due("0: - 1 -", "ann's timetable", () -> Schools.line(planner, 0));
        begins("planner.openClass(music, 0);");
        planner.openClass(1, 0);
        says("planner.join(1, music);", planner.join(1, 1));
        says("planner.chainPupil(0);", planner.chainPupil(0));
        says("planner.chainBlock(0);", planner.chainBlock(0));
        Check.due("0: 1 - -", "ann's timetable", () -> Schools.line(planner, 0));
        says("planner.quit(1, music);", planner.quit(1, 1));
        says("planner.change(1, art, music);", planner.change(1, 0, 1));
        Check.due("1: - 1 -", "the timetable of pupil 1", () -> Schools.line(planner, 1));
    }

    private static void snapshot(OptionBlockPlanner planner) {
        says("planner.save();", planner.save());
        says("planner.withdraw(ann);", planner.withdraw(0));
        says("planner.withdraw(1);", planner.withdraw(1));
        says("planner.arrange();", planner.arrange());
        Check.due("0 1", "the arrangement", () -> Schools.openBlocks(planner));
        says("planner.isOpen(music, 0);", planner.isOpen(1, 0));
        says("planner.restore();", planner.restore());
        says("planner.subjectIn(ann, 0);", planner.subjectIn(0, 0));
    }
}
