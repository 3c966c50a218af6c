import java.util.concurrent.Callable;

/** The sentences of the promises 31 to 55 that name a boundary case, each with a test of its own. */
public final class ChangeEdgesTest extends Schools {
    private static final String NO_PUPIL = "Throws IndexOutOfBoundsException if there is no such pupil";
    private static final String NO_PUPIL_OR_SUBJECT =
            "Throws IndexOutOfBoundsException if there is no such pupil or subject";
    private static final String ATTENDS = "Throws IllegalStateException if the pupil attends the subject";
    private static final String NO_CHAIN = "Throws NoSuchElementException if there is no chain";
    private static final String NO_MOVE =
            "Throws NoSuchElementException if there was no chain so far, or it has no such move";
    private static final String NO_OTHER = "Throws IndexOutOfBoundsException if one of the subjects does not exist";
    private static final String SAME_TWICE = "Throws IllegalArgumentException if both are the same";
    private static final String NONE_FAILED = "Throws NoSuchElementException if no command failed so far";
    private static final int[] FAR = {-1, -2, 1 << 30, Integer.MAX_VALUE, Integer.MIN_VALUE};

    private ChangeEdgesTest() {
    }

    public static void main(String[] args) {
        promises31And32();
        promise33();
        promise34();
        promise35();
        promise35Refused();
        promise36();
        promise37();
        promises38And39();
        promises40And41();
        promise41();
        promise42();
        promises43And44();
        promise45();
        promise46();
        promise47();
        promise48();
        promise49();
        promise49Fails();
        promise50();
        promises51And52();
        promise53();
        promise54();
        promise55();
        Check.end("ChangeEdgesTest");
    }

    // ---- late changes

    private static Object moves(int promise, OptionBlockPlanner x, int pupil, int subject) {
        return promise == 31 ? x.movesFor(pupil, subject) : x.movesByTrial(pupil, subject);
    }

    private static void promises31And32() {
        for (int promise : new int[] {31, 32}) {
            sentence(promise, "Returns the number of moves.");
            for (int moves : upTo(4)) {
                OptionBlockPlanner x = chainOf(moves);
                due(moves, "the moves of a chain of " + moves, () -> moves(promise, x, moves, 0));
                due(moves, "the moves once more", () -> moves(promise, x, moves, 0));
                due(-1, "blockOf of the pupil", () -> x.blockOf(moves, 0));
            }
            sentence(promise, NO_PUPIL_OR_SUBJECT);
            duePupilIndex("moves", (y, number) -> moves(promise, y, number, 0));
            dueSubjectIndex("moves", (y, number) -> moves(promise, y, 0, number));
            sentence(promise, ATTENDS);
            OptionBlockPlanner x = planner(sizes(2, 9), 2, 4);
            open(x, 0, 0, 1);
            x.join(0, 0);
            due(Check.STATE, "the moves of one who attends it", () -> moves(promise, x, 0, 0));
            due(0, "the moves of another", () -> moves(promise, x, 1, 0));
            x.quit(0, 0);
            due(0, "the moves after a quit", () -> moves(promise, x, 0, 0));
            sentence(promise, NO_CHAIN);
            due(Check.MISSING, "the moves to a subject that is not open", () -> moves(promise, x, 0, 1));
            x.closeClass(0, 1);
            x.join(1, 0);
            due(0, "the moves to a class with room for one", () -> moves(promise, x, 0, 0));
            x.join(2, 0);
            due(Check.MISSING, "the moves to a class that is full", () -> moves(promise, x, 0, 0));
            x.setSize(0, 3);
            open(x, 1, 0);
            x.join(3, 1);
            due(Check.MISSING, "the moves of one who is not free", () -> moves(promise, x, 3, 0));
            due(Check.MISSING, "refusalReason, which no moves store", x::refusalReason);
        }
    }

    private static void promise33() {
        sentence(33, "Returns the number of moves of the chain.");
        for (int moves : upTo(4)) {
            OptionBlockPlanner x = chainOf(moves);
            due(moves, "join", () -> x.join(moves, 0));
            due(0, "blockOf of the pupil", () -> x.blockOf(moves, 0));
        }
        sentence(33, NO_PUPIL_OR_SUBJECT);
        duePupilIndex("join", (y, number) -> y.join(number, 0));
        dueSubjectIndex("join", (y, number) -> y.join(0, number));
        sentence(33, ATTENDS);
        OptionBlockPlanner x = planner(sizes(1, 9), 2, 3);
        open(x, 0, 0, 1);
        x.join(0, 0);
        due(Check.STATE, "join of one who attends it, with room in another block", () -> x.join(0, 0));
        x.closeClass(0, 1);
        due(Check.STATE, "join of one who attends it, without room", () -> x.join(0, 0));
        due(Check.MISSING, "refusalReason", x::refusalReason);
        sentence(33, "Throws UnsupportedOperationException if there is no chain; the reason is stored");
        due(Check.REFUSED, "join of a full class", () -> x.join(1, 0));
        due(3, "refusalReason", x::refusalReason);
        due(Check.REFUSED, "join of a subject that is not open", () -> x.join(0, 1));
        due(1, "refusalReason", x::refusalReason);
        open(x, 1, 0);
        due(Check.REFUSED, "join of one who is not free", () -> x.join(0, 1));
        due(2, "refusalReason", x::refusalReason);
        dueTimetable("0: 0 -", x, 0);
        dueTimetable("1: - -", x, 1);
    }

    private static void promise34() {
        sentence(34, "Returns the block in which the pupil attended it.");
        OptionBlockPlanner x = planner(sizes(9, 9, 9, 9), 4, 2);
        for (int subject : upTo(4)) {
            x.openClass(subject, 3 - subject);
            x.join(0, subject);
        }
        for (int subject : upTo(4)) {
            due(3 - subject, "quit(0, " + subject + ")", () -> x.quit(0, subject));
        }
        sentence(34, NO_PUPIL_OR_SUBJECT);
        duePupilIndex("quit", (y, number) -> y.quit(number, 0));
        dueSubjectIndex("quit", (y, number) -> y.quit(0, number));
        sentence(34, "Throws IllegalStateException if the pupil does not attend the subject");
        x.addWish(1, 0);
        due(Check.STATE, "quit(1, 0) of a wish alone", () -> x.quit(1, 0));
        x.join(1, 0);
        due(Check.STATE, "quit(0, 0) of what another attends", () -> x.quit(0, 0));
        due(3, "quit(1, 0)", () -> x.quit(1, 0));
        due(Check.STATE, "quit(1, 0) again", () -> x.quit(1, 0));
    }

    private static void promise35() {
        sentence(35, "Lets a pupil quit a subject and then join another one, as quit and join do.");
        OptionBlockPlanner x = planner(sizes(1, 9), 2, 2);
        open(x, 0, 1);
        open(x, 1, 1);
        x.join(0, 1);
        x.change(0, 1, 0);
        dueTimetable("0: - 0", x, 0);
        due(0, "pupilsInClass(1, 1) of the subject that was quit", () -> x.pupilsInClass(1, 1));
        due(0, "chainMoves", x::chainMoves);
        sentence(35, "Returns the number of moves of the chain.");
        for (int moves : upTo(4)) {
            OptionBlockPlanner y = chainOf(moves);
            // Only by quitting, the pupil is free in block 0 again.
            y.join(moves, 1);
            due(moves, "change", () -> y.change(moves, 1, 0));
            due(0, "the entry", () -> y.blockOf(moves, 0));
        }
        sentence(35, "Throws IndexOutOfBoundsException if there is no such pupil, "
                + "or one of the subjects does not exist");
        duePupilIndex("change", (y, number) -> y.change(number, 0, 1));
        dueSubjectIndex("change from a subject", (y, number) -> y.change(0, number, 1));
        dueSubjectIndex("change to a subject", (y, number) -> y.change(0, 1, number));
    }

    private static void promise35Refused() {
        sentence(35, "Throws IllegalStateException if the pupil does not attend the first subject, "
                + "or attends the second one");
        OptionBlockPlanner x = planner(sizes(1, 1, 1, 1), 3, 2);
        open(x, 0, 0);
        open(x, 1, 1);
        open(x, 2, 2);
        x.addWish(0, 2);
        x.join(0, 0);
        x.join(0, 1);
        due(Check.STATE, "change from a subject that is not attended", () -> x.change(0, 2, 3));
        due(Check.STATE, "change to a subject that is attended", () -> x.change(0, 0, 1));
        due(Check.STATE, "change from one that is not to one that is", () -> x.change(0, 2, 1));
        due(Check.STATE, "change to the same subject", () -> x.change(0, 0, 0));
        due(Check.STATE, "change to the same subject, not attended", () -> x.change(0, 3, 3));
        due(Check.MISSING, "refusalReason", x::refusalReason);
        dueTimetable("0: 0 1 -", x, 0);
        sentence(35, "Throws UnsupportedOperationException if there is no chain after quitting; "
                + "the reason is stored");
        due(Check.REFUSED, "change to a subject that is not open", () -> x.change(0, 0, 3));
        due(1, "refusalReason", x::refusalReason);
        open(x, 3, 1);
        due(Check.REFUSED, "change where the pupil is not free even then", () -> x.change(0, 0, 3));
        due(2, "refusalReason", x::refusalReason);
        x.join(1, 3);
        due(Check.REFUSED, "change to a full class in the block of the first one", () -> x.change(0, 1, 3));
        due(3, "refusalReason", x::refusalReason);
        dueTimetable("0: 0 1 -", x, 0);
        x.quit(1, 3);
        due(0, "change with room", () -> x.change(0, 1, 3));
        dueTimetable("0: 0 3 -", x, 0);
    }

    private static void promise36() {
        sentence(36, "Throws NoSuchElementException if none was refused so far");
        OptionBlockPlanner x = planner(sizes(1, 1), 2, 3);
        open(x, 0, 0);
        x.join(0, 0);
        Check.answerOf(() -> x.join(0, 0));
        Check.answerOf(() -> x.join(0, 2));
        Check.answerOf(() -> x.change(0, 1, 0));
        Check.answerOf(() -> x.movesFor(1, 0));
        Check.answerOf(() -> x.movesByTrial(1, 1));
        due(Check.MISSING, "refusalReason after calls that were not refused", x::refusalReason);
        sentence(36, "Returns the reason for which a join or a change was last refused.");
        Check.answerOf(() -> x.join(1, 0));
        due(3, "refusalReason after a join", x::refusalReason);
        Check.answerOf(() -> x.change(0, 0, 1));
        due(1, "refusalReason after a change", x::refusalReason);
        x.openClass(1, 0);
        x.join(1, 1);
        due(1, "refusalReason after a join that was not refused", x::refusalReason);
        Check.answerOf(() -> x.join(0, 1));
        due(2, "refusalReason after another join", x::refusalReason);
        Check.answerOf(() -> x.join(2, 9));
        due(2, "refusalReason after a wrong call", x::refusalReason);
        run(x, "pupil;join 2 0");
        due(3, "refusalReason after a program", x::refusalReason);
        run(x, "join 2 5");
        due(3, "refusalReason after a program that fails otherwise", x::refusalReason);
    }

    private static void promise37() {
        sentence(37, "Throws NoSuchElementException if there was no chain so far");
        OptionBlockPlanner x = planner(sizes(1, 9), 2, 3);
        open(x, 0, 0);
        open(x, 1, 1);
        wish(x, 0, 0);
        x.enrol(0);
        Check.answerOf(() -> x.join(1, 0));
        x.enrolAll();
        due(Check.MISSING, "chainMoves after enrolments and a refusal", x::chainMoves);
        run(x, "join 1 1;join 1 1");
        due(Check.MISSING, "chainMoves after a program that failed", x::chainMoves);
        sentence(37, "Returns the number of moves of the last chain, "
                + "that of the last join or change that was carried out.");
        x.join(1, 1);
        due(0, "chainMoves after a join without moves", x::chainMoves);
        open(x, 0, 1);
        x.join(1, 0);
        due(1, "chainMoves after a join with a move", x::chainMoves);
        Check.answerOf(() -> x.join(2, 0));
        due(1, "chainMoves after a refusal", x::chainMoves);
        x.withdraw(1);
        x.enrolAll();
        due(1, "chainMoves after withdraw and enrolAll", x::chainMoves);
        x.join(2, 1);
        due(0, "chainMoves after another join", x::chainMoves);
        x.join(1, 1);
        x.quit(0, 0);
        open(x, 1, 0);
        run(x, "quit 1 1;join 1 1;change 1 1 0");
        due(0, "chainMoves after a program", x::chainMoves);
    }

    private static void promises38And39() {
        OptionBlockPlanner none = new OptionBlockPlanner();
        OptionBlockPlanner x = chainOf(3);
        x.join(3, 0);
        sentence(38, "Returns the pupil of a move of the last chain.");
        for (int move : upTo(3)) {
            due(move, "chainPupil(" + move + ")", () -> x.chainPupil(move));
        }
        sentence(38, NO_MOVE);
        due(Check.MISSING, "chainPupil(0) without a chain", () -> none.chainPupil(0));
        due(Check.MISSING, "chainPupil(-1) without a chain", () -> none.chainPupil(-1));
        due(Check.MISSING, "chainPupil(3) behind the last move", () -> x.chainPupil(3));
        sentence(39, "Returns the block into which a move of the last chain went.");
        for (int move : upTo(3)) {
            due(move + 1, "chainBlock(" + move + ")", () -> x.chainBlock(move));
        }
        sentence(39, NO_MOVE);
        due(Check.MISSING, "chainBlock(0) without a chain", () -> none.chainBlock(0));
        due(Check.MISSING, "chainBlock(-1) without a chain", () -> none.chainBlock(-1));
        due(Check.MISSING, "chainBlock(3) behind the last move", () -> x.chainBlock(3));
        for (int move : FAR) {
            due(Check.MISSING, "chainPupil(" + move + ")", () -> x.chainPupil(move));
            due(Check.MISSING, "chainBlock(" + move + ")", () -> x.chainBlock(move));
        }
        x.quit(0, 0);
        x.join(0, 0);
        due(Check.MISSING, "chainPupil(0) after a chain without moves", () -> x.chainPupil(0));
        due(Check.MISSING, "chainBlock(0) after a chain without moves", () -> x.chainBlock(0));
    }

    // ---- clashes and arrangements

    private static Object pair(int promise, OptionBlockPlanner x, int subject, int other) {
        return promise == 40 ? x.commonWishes(subject, other) : x.doClash(subject, other);
    }

    private static void promises40And41() {
        for (int promise : new int[] {40, 41}) {
            sentence(promise, NO_OTHER);
            dueSubjectIndex("the first subject", (y, number) -> pair(promise, y, number, 1));
            dueSubjectIndex("the other subject", (y, number) -> pair(promise, y, 1, number));
            due(Check.INDEX, "twice a subject that is not there", () -> pair(promise, begun(), 3, 3));
            sentence(promise, SAME_TWICE);
            for (int subject : upTo(3)) {
                due(Check.ARGUMENT, "twice the subject " + subject, () -> pair(promise, begun(), subject, subject));
            }
        }
        sentence(40, "Returns the number of pupils who have two subjects among their wishes.");
        OptionBlockPlanner x = planner(sizes(1, 1, 1), 3, 12);
        due(0, "commonWishes(0, 1) without wishes", () -> x.commonWishes(0, 1));
        for (int pupil : upTo(12)) {
            int first = pupil % 2;
            x.addWish(pupil, first);
            due(pupil, "commonWishes(1, 0) with one of two", () -> x.commonWishes(1, 0));
            x.addWish(pupil, 1 - first);
            due(pupil + 1, "commonWishes(0, 1)", () -> x.commonWishes(0, 1));
        }
        x.setReserve(0, 2);
        due(0, "commonWishes(0, 2) with a reserve", () -> x.commonWishes(0, 2));
        x.addWish(1, 2);
        due(1, "commonWishes(2, 0)", () -> x.commonWishes(2, 0));
    }

    private static void promise41() {
        sentence(41, "Returns whether they clash.");
        OptionBlockPlanner x = planner(sizes(1, 1), 4, 0);
        due(true, "doClash(0, 1) with nothing open", () -> x.doClash(0, 1));
        open(x, 0, 3);
        due(true, "doClash(0, 1) with one of them open", () -> x.doClash(0, 1));
        open(x, 1, 3);
        due(true, "doClash(0, 1) in one block", () -> x.doClash(0, 1));
        open(x, 1, 0);
        due(false, "doClash(0, 1) with two blocks of one of them", () -> x.doClash(0, 1));
        due(false, "doClash(1, 0) with two blocks of one of them", () -> x.doClash(1, 0));
        x.closeClass(1, 3);
        due(false, "doClash(0, 1) in two blocks", () -> x.doClash(0, 1));
    }

    private static void promise42() {
        sentence(42, "Returns the sum, over all pupils, of the number of pairs of different wishes of the pupil "
                + "that clash.");
        OptionBlockPlanner x = planner(sizes(1, 1, 1, 1), 2, 12);
        due(0, "clashCount without wishes", x::clashCount);
        for (int pupil : upTo(12)) {
            x.addWish(pupil, 0);
            due(3 * pupil, "clashCount with a single wish", x::clashCount);
            x.addWish(pupil, 1);
            x.addWish(pupil, 2);
            due(3 * pupil + 3, "clashCount with nothing open", x::clashCount);
        }
        x.setReserve(0, 3);
        due(36, "clashCount with a reserve", x::clashCount);
        open(x, 0, 0);
        open(x, 1, 1);
        due(24, "clashCount with two subjects apart", x::clashCount);
        open(x, 2, 1);
        due(12, "clashCount with two subjects in one block", x::clashCount);
        open(x, 2, 0);
        due(0, "clashCount with nothing that clashes", x::clashCount);
        due(0, "clashCount of nobody", () -> new OptionBlockPlanner().clashCount());
    }

    private static Object least(int promise, OptionBlockPlanner x) {
        return promise == 43 ? x.leastClashes() : x.leastClashesByTrial();
    }

    private static void promises43And44() {
        for (int promise : new int[] {43, 44}) {
            sentence(promise, promise == 43 ? "Returns the number of clashes, 0 without subjects."
                    : "Returns the same number as leastClashes, by trying all arrangements.");
            due(0, "the least without subjects", () -> least(promise, new OptionBlockPlanner()));
            due(0, "the least of one subject", () -> least(promise, planner(sizes(1), 1, 1)));
            OptionBlockPlanner x = planner(sizes(1, 1, 1, 1, 1, 1, 1), 1, 12);
            due(0, "the least without wishes", () -> least(promise, x));
            for (int pupil : upTo(12)) {
                wish(x, pupil, pupil % 7, (pupil + 1) % 7, (pupil + 3) % 7);
                due(3 * pupil + 3, "the least in one block", () -> least(promise, x));
            }
            // The wishes of 7 pupils are the lines of the smallest projective plane, so that each pair of subjects is
            // in one of them; 5 lines come twice. However 7 points are parted in two, a line stays whole.
            x.setBlockCount(2);
            due(14, "the least in two blocks", () -> least(promise, x));
            x.setBlockCount(3);
            due(6, "the least in three blocks", () -> least(promise, x));
            x.setBlockCount(4);
            due(4, "the least in four blocks", () -> least(promise, x));
            due("      ", "the open classes, which no search changes", () -> openBlocks(x));
            x.leastClashes();
            x.setBlockCount(1);
            due(36, "the least in one block after four", () -> least(promise, x));
        }
    }

    private static void promise45() {
        sentence(45, "Closes all classes, and then opens, for each subject, its class in its block "
                + "of the best arrangement.");
        OptionBlockPlanner x = planner(sizes(1, 1, 1), 3, 3);
        open(x, 0, 0, 1, 2);
        open(x, 2, 2);
        wish(x, 0, 1, 2);
        x.arrange();
        due("0 0 1", "the arrangement", () -> openBlocks(x));
        sentence(45, "Returns the number of clashes of the arrangement.");
        due(0, "arrange once more", x::arrange);
        due(0, "arrange without subjects", () -> new OptionBlockPlanner().arrange());
        OptionBlockPlanner y = planner(sizes(1, 1, 1), 1, 2);
        wish(y, 1, 0, 1, 2);
        due(3, "arrange in one block", y::arrange);
        due("0 0 0", "the arrangement in one block", () -> openBlocks(y));
        y.setBlockCount(2);
        due(1, "arrange in two blocks", y::arrange);
        due("0 0 1", "the arrangement in two blocks", () -> openBlocks(y));
        sentence(45, "Throws IllegalStateException if the timetable of a pupil contains a class");
        y.openClass(0, 1);
        for (int pupil : upTo(2)) {
            y.join(pupil, pupil);
            due(Check.STATE, "arrange with pupil " + pupil + " in a class", y::arrange);
            due("01 0 1", "the classes after a refusal", () -> openBlocks(y));
            y.quit(pupil, pupil);
        }
        due(1, "arrange after quit", y::arrange);
    }

    // ---- line and programs

    private static String written(OptionBlockPlanner x) {
        StringBuilder written = new StringBuilder();
        for (int index = 0; index < 40; index++) {
            int place = index;
            String character = Check.answerOf(() -> x.lineAt(place));
            written.append(character.equals(Check.INDEX) ? "" : character);
        }
        return written.toString();
    }

    private static void promise46() {
        sentence(46, "Writes the timetable of a pupil to the line, in place of the line before: the number of the "
                + "pupil and a colon, and then, for each block, a blank and the number of the subject, followed by "
                + "an exclamation mark if the subject is the reserve of the pupil, or a minus sign if the pupil is "
                + "free in the block; as in \"3: 2 - 0!\".");
        OptionBlockPlanner x = planner(sizes(9, 9, 9, 9, 9, 9, 9), 3, 12);
        open(x, 2, 0);
        open(x, 0, 2);
        x.join(3, 2);
        x.join(3, 0);
        x.setReserve(3, 0);
        x.writeTimetable(3);
        due("3: 2 - 0!", "the line", () -> written(x));
        x.setReserve(3, 1);
        x.writeTimetable(3);
        due("3: 2 - 0", "the line with another reserve", () -> written(x));
        x.setBlockCount(4);
        open(x, 6, 3);
        x.join(11, 6);
        x.setReserve(11, 6);
        x.writeTimetable(11);
        due("11: - - - 6!", "the line of pupil 11 in four blocks", () -> written(x));
        x.writeTimetable(10);
        due("10: - - - -", "the line of a pupil without classes", () -> written(x));
        OptionBlockPlanner one = planner(sizes(1), 1, 1);
        one.writeTimetable(0);
        due("0: -", "the line in one block", () -> written(one));
        sentence(46, "Returns the length of the line.");
        due(4, "writeTimetable(0) in one block", () -> one.writeTimetable(0));
        due(12, "writeTimetable(11)", () -> x.writeTimetable(11));
        due(10, "writeTimetable(3)", () -> x.writeTimetable(3));
        sentence(46, NO_PUPIL);
        duePupilIndex("writeTimetable", (y, number) -> y.writeTimetable(number));
        due(Check.INDEX, "writeTimetable(12)", () -> x.writeTimetable(12));
        due("3: 2 - 0 -", "the line after a wrong call", () -> written(x));
    }

    private static void promise47() {
        sentence(47, "Returns a character of the line, which is empty at first.");
        OptionBlockPlanner x = planner(sizes(1), 2, 11);
        due(Check.INDEX, "lineAt(0) at first", () -> x.lineAt(0));
        x.writeTimetable(10);
        due("10: - -", "the line", () -> written(x));
        sentence(47, "Throws IndexOutOfBoundsException if there is no such character");
        due('-', "lineAt(6)", () -> x.lineAt(6));
        due(Check.INDEX, "lineAt(7)", () -> x.lineAt(7));
        for (int index : FAR) {
            due(Check.INDEX, "lineAt(" + index + ")", () -> x.lineAt(index));
        }
        x.writeTimetable(0);
        due(Check.INDEX, "lineAt(6) of a shorter line", () -> x.lineAt(6));
        due('-', "lineAt(5) of a shorter line", () -> x.lineAt(5));
    }

    private static void promise48() {
        sentence(48, "Returns the number of characters in the buffer.");
        OptionBlockPlanner x = new OptionBlockPlanner();
        for (int length = 1; length <= 60; length++) {
            char character = (char) (length + 31);
            due(length, "type of the code " + (length + 31), () -> x.type(character));
        }
        sentence(48, "Throws IllegalStateException if the buffer contains 60 characters");
        due(Check.STATE, "type of a character too many", () -> x.type('a'));
        due(Check.STATE, "type of a character too many once more", () -> x.type(' '));
        Check.answerOf(x::execute);
        due(1, "type after execute", () -> x.type('a'));
        sentence(48, "Throws IllegalArgumentException if the code of the character is not from 32 to 126");
        for (int code : upTo(400)) {
            OptionBlockPlanner y = new OptionBlockPlanner();
            Object want = code >= 32 && code <= 126 ? 1 : Check.ARGUMENT;
            due(want, "type of the code " + code, () -> y.type((char) code));
        }
        for (int code : new int[] {256 + 'a', 32767, 32768, 32768 + 'a', 65535}) {
            due(Check.ARGUMENT, "type of the code " + code, () -> x.type((char) code));
        }
        due(2, "type after wrong characters", () -> x.type('a'));
    }

    private static void promise49() {
        sentence(49, "Executes the program in the buffer, all commands of it or none, and empties the buffer, "
                + "also if an exception is thrown.");
        OptionBlockPlanner x = new OptionBlockPlanner();
        run(x, "pupil;subject 3");
        due("|3 3|0: - - - -1|NoSuchElementExceptionNoSuchElementExceptionNoSuchElementException",
                "the state after a program", () -> stateOf(x));
        due(1, "type after a program", () -> x.type('p'));
        due(Check.ARGUMENT, "execute of a malformed program", () -> run(x, "upil;pupil;"));
        due(1, "pupilCount after a malformed program", x::pupilCount);
        due(1, "type after a malformed program", () -> x.type('p'));
        due(Check.STATE, "execute of a program that fails", () -> run(x, "upil;pupil;subject 0"));
        due(1, "pupilCount after a program that fails", x::pupilCount);
        due(1, "type after a program that fails", () -> x.type('p'));
        sentence(49, "Returns the number of commands.");
        OptionBlockPlanner y = new OptionBlockPlanner();
        String text = "pupil";
        for (int commands = 1; commands <= 10; commands++) {
            String program = text;
            due(commands, "execute of " + program, () -> run(y, program));
            due(commands, "pupilCount", y::pupilCount);
            y.undo();
            text += ";pupil";
        }
    }

    private static void promise49Fails() {
        sentence(49, "Throws IllegalArgumentException if the program is malformed; its error position is stored");
        OptionBlockPlanner x = new OptionBlockPlanner();
        due(Check.ARGUMENT, "execute of an empty buffer", x::execute);
        due(0, "errorPosition", x::errorPosition);
        due(Check.ARGUMENT, "execute of a malformed program", () -> run(x, "enrol 9;enrol 9 9"));
        due(15, "errorPosition", x::errorPosition);
        due(Check.MISSING, "failedCommand of a malformed program", x::failedCommand);
        sentence(49, "Throws IllegalStateException if the method of a command throws an exception; the index of the "
                + "command and the kind of the exception are stored, "
                + "and the reason, if it is a refused join or change");
        due(Check.STATE, "a first command that fails", () -> run(x, "enrol 0;pupil"));
        dueFailure(0, 1, Check.MISSING, x);
        OptionBlockPlanner y = planner(sizes(), 3, 3);
        due(Check.STATE, "a last command of ten that fails",
                () -> run(y, "pupil;pupil;pupil;pupil;pupil;pupil;pupil;pupil;pupil;pupil"));
        dueFailure(9, 3, Check.MISSING, y);
        due(3, "pupilCount", y::pupilCount);
        due(Check.STATE, "a wrong argument", () -> run(x, "pupil;subject 0"));
        dueFailure(1, 2, Check.MISSING, x);
        due(Check.STATE, "a wrong state", () -> run(x, "pupil;subject 1;enrol 0"));
        dueFailure(2, 3, Check.MISSING, x);
        due(Check.STATE, "a refused join", () -> run(x, "pupil;subject 1;join 0 0"));
        dueFailure(2, 4, 1, x);
        due(Check.STATE, "a join to a full class",
                () -> run(x, "pupil;pupil;subject 1;open 0 0;join 0 0;join 1 0"));
        dueFailure(5, 4, 3, x);
        due(Check.STATE, "a refused change", () -> run(x, "pupil;subject 1;open 0 0;join 0 0;subject 9;change 0 0 1"));
        dueFailure(5, 4, 1, x);
        due(Check.STATE, "the first of two that fail", () -> run(x, "pupil;enrol 1;subject 0"));
        dueFailure(1, 1, 1, x);
        due(0, "pupilCount", x::pupilCount);
        due(15, "errorPosition, as it was", x::errorPosition);
    }

    private static void dueFailure(int command, int kind, Object reason, OptionBlockPlanner x) {
        due(command, "failedCommand", x::failedCommand);
        due(kind, "failureKind", x::failureKind);
        due(reason, "refusalReason", x::refusalReason);
    }

    private static void promise50() {
        sentence(50, "Throws NoSuchElementException if no program was malformed so far");
        OptionBlockPlanner x = new OptionBlockPlanner();
        due(Check.MISSING, "errorPosition at first", x::errorPosition);
        run(x, "pupil");
        run(x, "enrol 9");
        due(Check.MISSING, "errorPosition after programs that are not malformed", x::errorPosition);
        sentence(50, "Returns the error position of the last malformed program.");
        run(x, "pupil;pupil!");
        due(11, "errorPosition", x::errorPosition);
        run(x, "pupil");
        run(x, "enrol 9");
        due(11, "errorPosition after programs that are not malformed", x::errorPosition);
        run(x, "");
        due(0, "errorPosition of the empty text", x::errorPosition);
        run(x, "pupil;pupil;pupil;pupil;pupil;pupil;pupil;pupil;pupil;pupil;");
        due(60, "errorPosition of a full buffer that ends too early", x::errorPosition);
    }

    private static void promises51And52() {
        OptionBlockPlanner x = new OptionBlockPlanner();
        Callable<?>[] calls = {x::failedCommand, x::failureKind};
        int[] promises = {51, 52};
        for (int index : upTo(2)) {
            sentence(promises[index], NONE_FAILED);
            due(Check.MISSING, "at first", calls[index]);
            run(x, "pupil");
            run(x, "z");
            Check.answerOf(() -> x.addSubject(0));
            due(Check.MISSING, "after programs and a call that do not fail as a command", calls[index]);
        }
        int[][] last = {{0, 2}, {2, 1}, {1, 3}, {3, 4}};
        String[] programs = {"subject 0", "pupil;pupil;enrol 9", "subject 1;quit 0 0",
            "pupil;subject 1;blocks 1;join 0 0"};
        String[] sentences = {"Returns the index of the last command that failed.",
            "Returns the kind of the exception that the method of the last command that failed threw."};
        for (int index : upTo(2)) {
            sentence(promises[index], sentences[index]);
            for (int program : upTo(4)) {
                due(Check.STATE, "execute of " + programs[program], () -> run(x, programs[program]));
                due(last[program][index], "after " + programs[program], calls[index]);
                run(x, "blocks 3");
                run(x, "blocks");
                Check.answerOf(() -> x.addSubject(0));
                due(last[program][index], "after other programs", calls[index]);
            }
        }
    }

    // ---- undo and snapshots

    private static void promise53() {
        sentence(53, "Returns the number of modifications that can still be undone.");
        for (int made = 1; made <= 20; made++) {
            OptionBlockPlanner x = new OptionBlockPlanner();
            for (int call : upTo(made)) {
                x.setBlockCount(1 + call % 4);
            }
            for (int left = Math.min(made, 8) - 1; left >= 0; left--) {
                due(left, "undo of " + made + " modifications", x::undo);
            }
            int kept = made - 9;
            due(kept < 0 ? 3 : 1 + kept % 4, "blockCount", x::blockCount);
            due(Check.STATE, "undo once more", x::undo);
        }
        sentence(53, "Throws IllegalStateException if there is none");
        OptionBlockPlanner x = new OptionBlockPlanner();
        due(Check.STATE, "undo of nothing", x::undo);
        Check.answerOf(() -> x.addSubject(0));
        run(x, "pupil;");
        x.save();
        due(Check.STATE, "undo after calls that are no modifications", x::undo);
        x.addPupil();
        due(0, "undo of the only modification", x::undo);
        due(Check.STATE, "undo once more", x::undo);
        x.addPupil();
        due(0, "undo after another modification", x::undo);
        x.restore();
        due(Check.STATE, "undo after restore", x::undo);
    }

    private static void promise54() {
        sentence(54, "Saves the state as a snapshot, which replaces an earlier one.");
        OptionBlockPlanner x = new OptionBlockPlanner();
        x.save();
        x.addSubject(3);
        x.save();
        x.addSubject(4);
        x.restore();
        due(1, "subjectCount of the later snapshot", x::subjectCount);
        x.addSubject(5);
        x.restore();
        due(1, "subjectCount of the later snapshot once more", x::subjectCount);
        sentence(54, "Returns the number of pupils.");
        for (int pupil : upTo(12)) {
            due(pupil, "save", x::save);
            x.addPupil();
        }
        due(12, "save of 12 pupils", x::save);
        due(7, "undo after save, which is no modification", x::undo);
    }

    private static void promise55() {
        sentence(55, "Restores the snapshot, which is kept. Afterwards nothing can be undone.");
        OptionBlockPlanner x = planner(sizes(1, 2), 2, 2);
        open(x, 0, 0);
        x.save();
        String saved = stateOf(x);
        for (int time : upTo(3)) {
            x.join(time % 2, 0);
            x.addPupil();
            x.setBlockCount(4);
            x.openClass(1, 3);
            x.addWish(0, 1);
            x.restore();
            due(saved, "the state after restore", () -> stateOf(x));
            due(Check.STATE, "undo after restore", x::undo);
        }
        x.addPupil();
        due(0, "undo after restore and another modification", x::undo);
        due(Check.STATE, "undo of what was before restore", x::undo);
        sentence(55, "Returns the number of pupils.");
        x.addPupil();
        due(2, "restore", x::restore);
        due(2, "restore at once again", x::restore);
        due(2, "pupilCount", x::pupilCount);
        sentence(55, "Throws IllegalStateException if there is no snapshot");
        OptionBlockPlanner y = new OptionBlockPlanner();
        due(Check.STATE, "restore without a snapshot", y::restore);
        y.addPupil();
        due(Check.STATE, "restore without a snapshot once more", y::restore);
        due(1, "pupilCount", y::pupilCount);
        due(0, "undo after a refusal", y::undo);
        due(0, "save", y::save);
        due(0, "restore of an empty planner", y::restore);
    }
}
