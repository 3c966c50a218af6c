import java.util.concurrent.Callable;
import java.util.function.Consumer;
import java.util.function.Supplier;

/** Planners to begin with, and what the face tells about them; the tests share these. */
abstract class Schools {
    static final int[] WRONG_NUMBERS = {-1, Integer.MIN_VALUE, Integer.MAX_VALUE, 1 << 30, 99};

    static OptionBlockPlanner planner(int[] sizes, int blocks, int pupils) {
        OptionBlockPlanner x = new OptionBlockPlanner();
        for (int size : sizes) {
            x.addSubject(size);
        }
        x.setBlockCount(blocks);
        for (int pupil = 0; pupil < pupils; pupil++) {
            x.addPupil();
        }
        return x;
    }

    static int[] sizes(int... sizes) {
        return sizes;
    }

    static void open(OptionBlockPlanner x, int subject, int... blocks) {
        for (int block : blocks) {
            x.openClass(subject, block);
        }
    }

    static void wish(OptionBlockPlanner x, int pupil, int... subjects) {
        for (int subject : subjects) {
            x.addWish(pupil, subject);
        }
    }

    static void type(OptionBlockPlanner x, String text) {
        for (char character : text.toCharArray()) {
            x.type(character);
        }
    }

    static String line(OptionBlockPlanner x, int pupil) {
        int length = x.writeTimetable(pupil);
        StringBuilder line = new StringBuilder();
        for (int index = 0; index < length; index++) {
            line.append(x.lineAt(index));
        }
        return line.toString();
    }

    static String run(OptionBlockPlanner x, String text) {
        type(x, text);
        return Check.answerOf(() -> x.execute());
    }

    static void dueTimetable(String want, OptionBlockPlanner x, int pupil) {
        Check.due(want, "the timetable of " + pupil, () -> line(x, pupil));
    }

    /**
     * Pupils 0 to 3 in the classes of subject 0 in the blocks 0 to 3, one a class, so that only
     * a chain over all blocks leads to the open place: each is kept by subjects 1 to 4 from all
     * blocks but its own and the next one. Pupil 4 is free in block 0 alone.
     */
    static OptionBlockPlanner longChain() {
        OptionBlockPlanner x = planner(sizes(1, 9, 9, 9, 9), 4, 5);
        for (int block = 0; block < 4; block++) {
            x.openClass(0, block);
            x.join(block, 0);
        }
        // Subject 1 + b lies in block b alone.
        for (int block = 0; block < 4; block++) {
            x.openClass(1 + block, block);
        }
        int[][] kept = {{2, 3}, {0, 3}, {0, 1}, {0, 1, 2}, {1, 2, 3}};
        for (int pupil = 0; pupil < 5; pupil++) {
            for (int block : kept[pupil]) {
                x.join(pupil, 1 + block);
            }
        }
        return x;
    }

    static String openBlocks(OptionBlockPlanner x) {
        StringBuilder blocks = new StringBuilder();
        for (int subject = 0; subject < x.subjectCount(); subject++) {
            blocks.append(subject == 0 ? "" : " ");
            for (int block = 0; block < x.blockCount(); block++) {
                blocks.append(x.isOpen(subject, block) ? "" + block : "");
            }
        }
        return blocks.toString();
    }

    /** What the face tells about the state that undo and restore bring back. */
    static String stateOf(OptionBlockPlanner x) {
        StringBuilder state = new StringBuilder();
        state.append(openBlocks(x)).append('|').append(x.blockCount());
        for (int subject = 0; subject < x.subjectCount(); subject++) {
            state.append(' ').append(x.sizeOf(subject));
        }
        for (int pupil = 0; pupil < x.pupilCount(); pupil++) {
            state.append('|').append(line(x, pupil)).append(' ').append(x.reserveOf(pupil));
            for (int rank = 0; rank < x.wishCount(pupil); rank++) {
                state.append(' ').append(x.wishAt(pupil, rank));
            }
        }
        state.append('|').append(Check.answerOf(x::chainMoves));
        state.append(Check.answerOf(() -> x.chainPupil(0))).append(Check.answerOf(() -> x.chainBlock(0)));
        return state.toString();
    }

    /** What the face tells about all that undo and restore do not bring back, but for the buffer. */
    static String notesOf(OptionBlockPlanner x) {
        StringBuilder notes = new StringBuilder();
        String character = Check.answerOf(() -> x.lineAt(0));
        for (int index = 1; !character.equals(Check.INDEX); index++) {
            notes.append(character);
            int next = index;
            character = Check.answerOf(() -> x.lineAt(next));
        }
        notes.append('|').append(Check.answerOf(x::refusalReason)).append('|').append(Check.answerOf(x::errorPosition));
        notes.append('|').append(Check.answerOf(x::failedCommand)).append('|').append(Check.answerOf(x::failureKind));
        return notes.toString();
    }

    /** All that the face tells, with what undo and restore bring back, and what the buffer does. */
    static String lifeOf(OptionBlockPlanner x) {
        StringBuilder life = new StringBuilder(notesOf(x)).append('|').append(stateOf(x));
        String left = Check.answerOf(x::undo);
        for (int undone = 0; undone <= 8 && !left.equals(Check.STATE); undone++) {
            life.append('|').append(left).append('|').append(stateOf(x));
            left = Check.answerOf(x::undo);
        }
        life.append('|').append(Check.answerOf(x::restore)).append('|').append(stateOf(x));
        life.append('|').append(Check.answerOf(() -> x.type('!'))).append('|').append(Check.answerOf(x::execute));
        return life.append('|').append(Check.answerOf(x::errorPosition)).toString();
    }

    /** The call throws this, and the planner is afterwards as if it had not been made. */
    static void dueNothing(String want, String name, Supplier<OptionBlockPlanner> begin,
            Consumer<OptionBlockPlanner> call) {
        OptionBlockPlanner x = begin.get();
        Check.due(want, name, () -> {
            call.accept(x);
            return "nothing thrown";
        });
        Check.due(lifeOf(begin.get()), "what is left by " + name, () -> lifeOf(x));
    }

    static void due(Object want, String name, Callable<?> call) {
        Check.due(want, name, call);
    }

    /** The numbers from 0 on, so many. */
    static int[] upTo(int count) {
        int[] numbers = new int[Math.max(count, 0)];
        for (int number = 0; number < count; number++) {
            numbers[number] = number;
        }
        return numbers;
    }

    static void dueValue(int want, OptionBlockPlanner x, int pupil) {
        due(want, "bestValue(" + pupil + ")", () -> x.bestValue(pupil));
        due(want, "bestValueBySets(" + pupil + ")", () -> x.bestValueBySets(pupil));
    }

    static void dueMoves(Object want, OptionBlockPlanner x, int pupil, int subject) {
        String of = "(" + pupil + ", " + subject + ")";
        due(want, "movesFor" + of, () -> x.movesFor(pupil, subject));
        due(want, "movesByTrial" + of, () -> x.movesByTrial(pupil, subject));
    }

    static void dueLeast(int want, OptionBlockPlanner x) {
        due(want, "leastClashes", x::leastClashes);
        due(want, "leastClashesByTrial", x::leastClashesByTrial);
    }

    /**
     * Pupils in the classes of subject 0 in all blocks but the last one, one a class, each of them free in the
     * next block alone; and a last pupil who is free in block 0 alone.
     */
    static OptionBlockPlanner chainOf(int moves) {
        int[] sizes = {1, 9, 9, 9, 9};
        OptionBlockPlanner x = planner(sizes, moves + 1, moves + 1);
        for (int block : upTo(moves + 1)) {
            x.openClass(1 + block, block);
        }
        for (int pupil : upTo(moves)) {
            x.openClass(0, pupil);
            x.join(pupil, 0);
        }
        x.openClass(0, moves);
        for (int pupil : upTo(moves + 1)) {
            for (int block : upTo(moves + 1)) {
                boolean open = pupil < moves ? block == pupil || block == pupil + 1 : block == 0;
                if (!open) {
                    x.join(pupil, 1 + block);
                }
            }
        }
        return x;
    }

    /** What is checked from here on is what this sentence of this promise says. */
    static void sentence(int promise, String text) {
        Check.sentence("Promise " + promise + ": " + text);
    }

    /** 3 subjects, 3 blocks and 4 pupils, and one of each behind them that was undone. */
    static OptionBlockPlanner begun() {
        OptionBlockPlanner x = planner(sizes(1, 2, 9), 3, 4);
        x.addSubject(5);
        x.setBlockCount(4);
        x.addPupil();
        x.openClass(3, 3);
        x.addWish(4, 3);
        x.join(4, 3);
        for (int undone = 0; undone < 6; undone++) {
            x.undo();
        }
        return x;
    }

    /** A call with a number of a subject, a block or a pupil. */
    interface Call {
        Object with(OptionBlockPlanner x, int number);
    }

    /** The lowest and the highest of so many numbers exist; those beside them and far from them do not. */
    static void dueIndex(int count, String name, Call call) {
        // Some of them wrap around to small numbers when they are doubled, tripled, and so on.
        for (int number : new int[] {-1, -2, count, count + 1, 31, 32, 33, 1431655766, 1 << 29, 1 << 30, 1 << 31,
            (1 << 30) + 1, Integer.MAX_VALUE, Integer.MIN_VALUE + 1}) {
            due(Check.INDEX, name + " with the number " + number, () -> call.with(begun(), number));
        }
        for (int number : new int[] {0, count - 1}) {
            String answer = Check.answerOf(() -> call.with(begun(), number));
            due(false, "whether " + name + " misses the number " + number, () -> answer.equals(Check.INDEX));
        }
    }

    static void dueSubjectIndex(String name, Call call) {
        dueIndex(3, name + " of a subject", call);
    }

    static void dueBlockIndex(String name, Call call) {
        dueIndex(3, name + " of a block", call);
    }

    static void duePupilIndex(String name, Call call) {
        dueIndex(4, name + " of a pupil", call);
    }
}
