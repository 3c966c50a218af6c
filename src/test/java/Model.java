import java.util.ArrayList;
import java.util.Arrays;
import java.util.Collections;
import java.util.List;
import java.util.NoSuchElementException;
import java.util.TreeMap;
import java.util.regex.Matcher;
import java.util.regex.Pattern;

/**
 * The document once more, by other means than the program: everything is listed and compared with
 * the words of the document, whatever it costs. The random runs compare the program with it.
 */
final class Model {
    private static final String DIGIT = "[0-9]";
    private static final String NUMBER = "[0-9][0-9]?";
    private static final String COMMAND = "(?:subject D|blocks D|open D D|close D D|pupil|wish N D|reserve N D"
            + "|enrol N|join N D|quit N D|change N D D|arrange)";
    private static final Pattern PROGRAM = Pattern.compile(
            (COMMAND + "(?:;" + COMMAND + ")*").replace("D", DIGIT).replace("N", NUMBER));

    /** A pupil with its wishes, its reserve, and its subjects by blocks. */
    private static final class Pupil {
        List<Integer> wishes = new ArrayList<>();
        int reserve = -1;
        TreeMap<Integer, Integer> lessons = new TreeMap<>();

        Pupil copy() {
            Pupil copy = new Pupil();
            copy.wishes = new ArrayList<>(wishes);
            copy.reserve = reserve;
            copy.lessons = new TreeMap<>(lessons);
            return copy;
        }
    }

    /** What undo and restore bring back. */
    private static final class State {
        List<Integer> sizes = new ArrayList<>();
        int blocks = 3;
        List<List<Integer>> open = new ArrayList<>();
        List<Pupil> pupils = new ArrayList<>();
        List<int[]> chain;

        State copy() {
            State copy = new State();
            copy.sizes = new ArrayList<>(sizes);
            copy.blocks = blocks;
            for (List<Integer> blocksOfSubject : open) {
                copy.open.add(new ArrayList<>(blocksOfSubject));
            }
            for (Pupil pupil : pupils) {
                copy.pupils.add(pupil.copy());
            }
            copy.chain = chain;
            return copy;
        }
    }

    private State now = new State();
    private final List<State> undoable = new ArrayList<>();
    private State snapshot;
    private String buffer = "";
    private String line = "";
    private Integer errorPosition;
    private Integer failedCommand;
    private Integer failureKind;
    private Integer reason;
    private boolean inProgram;

    private void modified() {
        if (inProgram) {
            return;
        }
        undoable.add(now.copy());
        if (undoable.size() > 8) {
            undoable.remove(0);
        }
    }

    private static void index(boolean good) {
        if (!good) {
            throw new IndexOutOfBoundsException();
        }
    }

    private static void argument(boolean good) {
        if (!good) {
            throw new IllegalArgumentException();
        }
    }

    private static void state(boolean good) {
        if (!good) {
            throw new IllegalStateException();
        }
    }

    private static int present(Integer value) {
        if (value == null) {
            throw new NoSuchElementException();
        }
        return value;
    }

    private void subject(int subject) {
        index(0 <= subject && subject < now.sizes.size());
    }

    private void block(int block) {
        index(0 <= block && block < now.blocks);
    }

    private Pupil pupil(int pupil) {
        index(0 <= pupil && pupil < now.pupils.size());
        return now.pupils.get(pupil);
    }

    private List<Integer> classOf(int subject, int block) {
        List<Integer> members = new ArrayList<>();
        for (int number = 0; number < now.pupils.size(); number++) {
            Integer lesson = now.pupils.get(number).lessons.get(block);
            if (lesson != null && lesson == subject) {
                members.add(number);
            }
        }
        return members;
    }

    private boolean hasRoom(int subject, int block, int except) {
        List<Integer> members = classOf(subject, block);
        members.remove(Integer.valueOf(except));
        return now.open.get(subject).contains(block) && members.size() < now.sizes.get(subject);
    }

    // ---- subjects, blocks and classes

    int addSubject(int size) {
        argument(1 <= size && size <= 9);
        state(now.sizes.size() < 7);
        modified();
        now.sizes.add(size);
        now.open.add(new ArrayList<>());
        return now.sizes.size() - 1;
    }

    int setSize(int subject, int size) {
        subject(subject);
        argument(1 <= size && size <= 9);
        for (int block = 0; block < now.blocks; block++) {
            state(classOf(subject, block).size() <= size);
        }
        modified();
        return now.sizes.set(subject, size);
    }

    int subjectCount() {
        return now.sizes.size();
    }

    int sizeOf(int subject) {
        subject(subject);
        return now.sizes.get(subject);
    }

    int setBlockCount(int count) {
        argument(1 <= count && count <= 4);
        for (List<Integer> blocksOfSubject : now.open) {
            state(blocksOfSubject.isEmpty() || Collections.max(blocksOfSubject) < count);
        }
        modified();
        int previous = now.blocks;
        now.blocks = count;
        return previous;
    }

    int blockCount() {
        return now.blocks;
    }

    int openClass(int subject, int block) {
        subject(subject);
        block(block);
        state(!now.open.get(subject).contains(block));
        modified();
        now.open.get(subject).add(block);
        return now.open.get(subject).size();
    }

    int closeClass(int subject, int block) {
        subject(subject);
        block(block);
        state(now.open.get(subject).contains(block) && classOf(subject, block).isEmpty());
        modified();
        now.open.get(subject).remove(Integer.valueOf(block));
        return now.open.get(subject).size();
    }

    boolean isOpen(int subject, int block) {
        subject(subject);
        block(block);
        return now.open.get(subject).contains(block);
    }

    int pupilsInClass(int subject, int block) {
        subject(subject);
        block(block);
        return classOf(subject, block).size();
    }

    int pupilInClass(int subject, int block, int place) {
        subject(subject);
        block(block);
        List<Integer> members = classOf(subject, block);
        return present(0 <= place && place < members.size() ? members.get(place) : null);
    }

    // ---- pupils

    int addPupil() {
        state(now.pupils.size() < 12);
        modified();
        now.pupils.add(new Pupil());
        return now.pupils.size() - 1;
    }

    int pupilCount() {
        return now.pupils.size();
    }

    int addWish(int number, int subject) {
        Pupil pupil = pupil(number);
        subject(subject);
        state(pupil.wishes.size() < 3 && !pupil.wishes.contains(subject) && pupil.reserve != subject);
        modified();
        pupil.wishes.add(subject);
        return pupil.wishes.size();
    }

    int setReserve(int number, int subject) {
        Pupil pupil = pupil(number);
        subject(subject);
        state(!pupil.wishes.contains(subject) && pupil.reserve != subject);
        modified();
        int previous = pupil.reserve;
        pupil.reserve = subject;
        return previous;
    }

    int wishCount(int number) {
        return pupil(number).wishes.size();
    }

    int wishAt(int number, int rank) {
        Pupil pupil = pupil(number);
        return present(0 <= rank && rank < pupil.wishes.size() ? pupil.wishes.get(rank) : null);
    }

    int reserveOf(int number) {
        return pupil(number).reserve;
    }

    int subjectIn(int number, int block) {
        Pupil pupil = pupil(number);
        block(block);
        return pupil.lessons.getOrDefault(block, -1);
    }

    int blockOf(int number, int subject) {
        Pupil pupil = pupil(number);
        subject(subject);
        return blockOf(pupil, subject);
    }

    private static int blockOf(Pupil pupil, int subject) {
        for (int block : pupil.lessons.keySet()) {
            if (pupil.lessons.get(block) == subject) {
                return block;
            }
        }
        return -1;
    }

    // ---- placements

    /** All placements: the block or -1 for each wish, and the last one for the reserve. */
    private List<int[]> placements(int number) {
        Pupil pupil = now.pupils.get(number);
        int parts = pupil.wishes.size() + 1;
        List<int[]> found = new ArrayList<>();
        int[] blocks = new int[parts];
        Arrays.fill(blocks, -1);
        while (true) {
            if (isPlacement(number, blocks)) {
                found.add(blocks.clone());
            }
            int part = 0;
            while (part < parts && blocks[part] == now.blocks - 1) {
                blocks[part] = -1;
                part++;
            }
            if (part == parts) {
                return found;
            }
            blocks[part]++;
        }
    }

    private boolean isPlacement(int number, int[] blocks) {
        Pupil pupil = now.pupils.get(number);
        int last = blocks.length - 1;
        boolean missesWish = false;
        for (int part = 0; part <= last; part++) {
            missesWish |= part < last && blocks[part] < 0;
            int subject = part < last ? pupil.wishes.get(part) : pupil.reserve;
            if (blocks[part] >= 0 && (subject < 0 || !hasRoom(subject, blocks[part], number))) {
                return false;
            }
            for (int other = 0; other < part; other++) {
                if (blocks[part] >= 0 && blocks[part] == blocks[other]) {
                    return false;
                }
            }
        }
        return blocks[last] < 0 || missesWish;
    }

    private static int value(int[] blocks) {
        int value = 0;
        for (int rank = 0; rank < blocks.length - 1; rank++) {
            value += blocks[rank] >= 0 ? new int[] {4, 2, 1}[rank] : 0;
        }
        return value;
    }

    private static boolean better(int[] one, int[] other) {
        int last = one.length - 1;
        if (value(one) != value(other)) {
            return value(one) > value(other);
        }
        if (one[last] >= 0 != other[last] >= 0) {
            return one[last] >= 0;
        }
        for (int part = 0; part <= last; part++) {
            if (one[part] != other[part]) {
                return one[part] < other[part];
            }
        }
        return false;
    }

    private int[] bestPlacement(int number) {
        int[] best = null;
        for (int[] placement : placements(number)) {
            if (best == null || better(placement, best)) {
                best = placement;
            }
        }
        return best;
    }

    private int place(int number) {
        Pupil pupil = now.pupils.get(number);
        int[] best = bestPlacement(number);
        for (int part = 0; part < best.length; part++) {
            if (best[part] >= 0) {
                pupil.lessons.put(best[part], part < best.length - 1 ? pupil.wishes.get(part) : pupil.reserve);
            }
        }
        return value(best);
    }

    int enrol(int number) {
        Pupil pupil = pupil(number);
        state(pupil.lessons.isEmpty() && !pupil.wishes.isEmpty());
        modified();
        return place(number);
    }

    int enrolAll() {
        modified();
        int served = 0;
        for (int number = 0; number < now.pupils.size(); number++) {
            Pupil pupil = now.pupils.get(number);
            if (!pupil.wishes.isEmpty() && pupil.lessons.isEmpty()) {
                place(number);
                served += pupil.lessons.values().containsAll(pupil.wishes) ? 1 : 0;
            }
        }
        return served;
    }

    int withdraw(int number) {
        Pupil pupil = pupil(number);
        state(!pupil.lessons.isEmpty());
        modified();
        int removed = now.pupils.get(number).lessons.size();
        now.pupils.get(number).lessons.clear();
        return removed;
    }

    int bestValue(int number) {
        pupil(number);
        return value(bestPlacement(number));
    }

    boolean canServe(int number) {
        return serve(pupil(number).wishes, 0, new ArrayList<>());
    }

    private boolean serve(List<Integer> wishes, int rank, List<Integer> taken) {
        if (rank == wishes.size()) {
            return true;
        }
        for (int block : now.open.get(wishes.get(rank))) {
            if (!taken.contains(block)) {
                List<Integer> more = new ArrayList<>(taken);
                more.add(block);
                if (serve(wishes, rank + 1, more)) {
                    return true;
                }
            }
        }
        return false;
    }

    int servedCount() {
        int served = 0;
        for (Pupil pupil : now.pupils) {
            served += !pupil.wishes.isEmpty() && pupil.lessons.values().containsAll(pupil.wishes) ? 1 : 0;
        }
        return served;
    }

    double meanClassSize() {
        int classes = 0;
        int members = 0;
        for (int subject = 0; subject < now.open.size(); subject++) {
            for (int block : now.open.get(subject)) {
                classes++;
                members += classOf(subject, block).size();
            }
        }
        if (classes == 0) {
            throw new ArithmeticException();
        }
        return (double) members / classes;
    }

    // ---- late changes

    /** All chains of at most so many moves: the entry, and then for each move its pupil and its block. */
    private void chains(int number, int subject, int most, List<Integer> chain, List<List<Integer>> found) {
        if (chain.isEmpty()) {
            for (int entry = 0; entry < now.blocks; entry++) {
                if (!now.pupils.get(number).lessons.containsKey(entry) && isOpen(subject, entry)) {
                    chains(number, subject, most, new ArrayList<>(List.of(entry)), found);
                }
            }
            return;
        }
        int from = chain.get(chain.size() - 1);
        if (hasRoom(subject, from, -1)) {
            found.add(chain);
        }
        if (chain.size() / 2 == most) {
            return;
        }
        for (int mover : classOf(subject, from)) {
            for (int to : now.open.get(subject)) {
                if (!moved(chain, mover) && !now.pupils.get(mover).lessons.containsKey(to)) {
                    List<Integer> longer = new ArrayList<>(chain);
                    longer.add(mover);
                    longer.add(to);
                    chains(number, subject, most, longer, found);
                }
            }
        }
    }

    private static boolean moved(List<Integer> chain, int pupil) {
        for (int place = 1; place < chain.size(); place += 2) {
            if (chain.get(place) == pupil) {
                return true;
            }
        }
        return false;
    }

    private static boolean betterChain(List<Integer> one, List<Integer> other) {
        if (one.size() != other.size()) {
            return one.size() < other.size();
        }
        // First the blocks in turn, and then the pupils in turn.
        for (int start = 0; start < 2; start++) {
            for (int place = start; place < one.size(); place += 2) {
                if (!one.get(place).equals(other.get(place))) {
                    return one.get(place) < other.get(place);
                }
            }
        }
        return false;
    }

    private List<Integer> bestChain(int number, int subject) {
        // With four blocks, a best chain has at most three moves.
        for (int most = 0; most <= 3; most++) {
            List<List<Integer>> found = new ArrayList<>();
            chains(number, subject, most, new ArrayList<>(), found);
            List<Integer> best = null;
            for (List<Integer> chain : found) {
                if (best == null || betterChain(chain, best)) {
                    best = chain;
                }
            }
            if (best != null) {
                return best;
            }
        }
        return null;
    }

    int movesFor(int number, int subject) {
        pupil(number);
        subject(subject);
        state(blockOf(number, subject) < 0);
        List<Integer> chain = bestChain(number, subject);
        return present(chain == null ? null : chain.size() / 2);
    }

    private void refuseWithoutChain(int number, int subject) {
        if (bestChain(number, subject) != null) {
            return;
        }
        List<Integer> open = now.open.get(subject);
        boolean free = false;
        for (int block : open) {
            free |= !now.pupils.get(number).lessons.containsKey(block);
        }
        reason = open.isEmpty() ? 1 : free ? 3 : 2;
        throw new UnsupportedOperationException();
    }

    private int carryOut(int number, int subject) {
        List<Integer> best = bestChain(number, subject);
        now.chain = new ArrayList<>();
        int from = best.get(0);
        for (int place = 1; place < best.size(); place += 2) {
            int to = best.get(place + 1);
            Pupil mover = now.pupils.get(best.get(place));
            mover.lessons.remove(from);
            mover.lessons.put(to, subject);
            now.chain.add(new int[] {best.get(place), to});
            from = to;
        }
        now.pupils.get(number).lessons.put(best.get(0), subject);
        return now.chain.size();
    }

    int join(int number, int subject) {
        pupil(number);
        subject(subject);
        state(blockOf(number, subject) < 0);
        refuseWithoutChain(number, subject);
        modified();
        return carryOut(number, subject);
    }

    int quit(int number, int subject) {
        Pupil pupil = pupil(number);
        subject(subject);
        int block = blockOf(pupil, subject);
        state(block >= 0);
        modified();
        pupil.lessons.remove(block);
        return block;
    }

    int change(int number, int from, int to) {
        Pupil pupil = pupil(number);
        subject(from);
        subject(to);
        int block = blockOf(pupil, from);
        state(block >= 0 && blockOf(pupil, to) < 0);
        State before = now.copy();
        pupil.lessons.remove(block);
        try {
            refuseWithoutChain(number, to);
        } catch (UnsupportedOperationException e) {
            now = before;
            throw e;
        }
        pupil.lessons.put(block, from);
        modified();
        pupil.lessons.remove(block);
        return carryOut(number, to);
    }

    int refusalReason() {
        return present(reason);
    }

    int chainMoves() {
        return present(now.chain == null ? null : now.chain.size());
    }

    private int ofMove(int move, int what) {
        boolean there = now.chain != null && 0 <= move && move < now.chain.size();
        return present(there ? now.chain.get(move)[what] : null);
    }

    int chainPupil(int move) {
        return ofMove(move, 0);
    }

    int chainBlock(int move) {
        return ofMove(move, 1);
    }

    // ---- clashes and arrangements

    int commonWishes(int subject, int other) {
        subject(subject);
        subject(other);
        argument(subject != other);
        int common = 0;
        for (Pupil pupil : now.pupils) {
            common += pupil.wishes.contains(subject) && pupil.wishes.contains(other) ? 1 : 0;
        }
        return common;
    }

    boolean doClash(int subject, int other) {
        subject(subject);
        subject(other);
        argument(subject != other);
        for (int block : now.open.get(subject)) {
            for (int otherBlock : now.open.get(other)) {
                if (block != otherBlock) {
                    return false;
                }
            }
        }
        return true;
    }

    int clashCount() {
        int clashes = 0;
        for (Pupil pupil : now.pupils) {
            for (int rank = 0; rank < pupil.wishes.size(); rank++) {
                for (int lower = 0; lower < rank; lower++) {
                    clashes += doClash(pupil.wishes.get(rank), pupil.wishes.get(lower)) ? 1 : 0;
                }
            }
        }
        return clashes;
    }

    /** The blocks of the best arrangement, with the number of its clashes behind them. */
    private int[] bestArrangement() {
        int count = now.sizes.size();
        int[][] common = new int[count][count];
        for (int subject = 0; subject < count; subject++) {
            for (int other = 0; other < subject; other++) {
                common[subject][other] = commonWishes(subject, other);
            }
        }
        int[] blocks = new int[count];
        int[] best = null;
        while (true) {
            int clashes = 0;
            for (int subject = 0; subject < count; subject++) {
                for (int other = 0; other < subject; other++) {
                    clashes += blocks[subject] == blocks[other] ? common[subject][other] : 0;
                }
            }
            if (best == null || clashes < best[count]) {
                best = Arrays.copyOf(blocks, count + 1);
                best[count] = clashes;
            }
            // The last subject counts up first, so that the lower blocks of the first subjects come first.
            int subject = count - 1;
            while (subject >= 0 && blocks[subject] == now.blocks - 1) {
                blocks[subject] = 0;
                subject--;
            }
            if (subject < 0) {
                return best;
            }
            blocks[subject]++;
        }
    }

    int leastClashes() {
        return bestArrangement()[now.sizes.size()];
    }

    int arrange() {
        for (Pupil pupil : now.pupils) {
            state(pupil.lessons.isEmpty());
        }
        modified();
        int[] best = bestArrangement();
        for (int subject = 0; subject < now.sizes.size(); subject++) {
            now.open.set(subject, new ArrayList<>(List.of(best[subject])));
        }
        return best[now.sizes.size()];
    }

    // ---- line and programs

    int writeTimetable(int number) {
        Pupil pupil = pupil(number);
        line = number + ":";
        for (int block = 0; block < now.blocks; block++) {
            Integer subject = pupil.lessons.get(block);
            line += " " + (subject == null ? "-" : subject + (subject == pupil.reserve ? "!" : ""));
        }
        return line.length();
    }

    char lineAt(int place) {
        index(0 <= place && place < line.length());
        return line.charAt(place);
    }

    int type(char character) {
        argument(32 <= character && character <= 126);
        state(buffer.length() < 60);
        buffer += character;
        return buffer.length();
    }

    /** Whether a text can be continued to a program, or is one. */
    private static boolean continues(String text) {
        Matcher matcher = PROGRAM.matcher(text);
        return matcher.matches() || matcher.hitEnd();
    }

    int execute() {
        String text = buffer;
        buffer = "";
        if (!PROGRAM.matcher(text).matches()) {
            int position = 0;
            while (position < text.length() && continues(text.substring(0, position + 1))) {
                position++;
            }
            errorPosition = position;
            throw new IllegalArgumentException();
        }
        State before = now.copy();
        String[] commands = text.split(";");
        inProgram = true;
        for (int command = 0; command < commands.length; command++) {
            int kind = kindOfFailure(commands[command].split(" "));
            if (kind != 0) {
                inProgram = false;
                now = before;
                failedCommand = command;
                failureKind = kind;
                throw new IllegalStateException();
            }
        }
        inProgram = false;
        State after = now;
        now = before;
        modified();
        now = after;
        return commands.length;
    }

    private int kindOfFailure(String[] words) {
        try {
            run(words);
            return 0;
        } catch (IndexOutOfBoundsException e) {
            return 1;
        } catch (IllegalArgumentException e) {
            return 2;
        } catch (IllegalStateException e) {
            return 3;
        } catch (UnsupportedOperationException e) {
            return 4;
        }
    }

    private void run(String[] words) {
        int[] numbers = new int[3];
        for (int word = 1; word < words.length; word++) {
            numbers[word - 1] = Integer.parseInt(words[word]);
        }
        switch (words[0]) {
            case "subject" -> addSubject(numbers[0]);
            case "blocks" -> setBlockCount(numbers[0]);
            case "open" -> openClass(numbers[0], numbers[1]);
            case "close" -> closeClass(numbers[0], numbers[1]);
            case "pupil" -> addPupil();
            case "wish" -> addWish(numbers[0], numbers[1]);
            case "reserve" -> setReserve(numbers[0], numbers[1]);
            case "enrol" -> enrol(numbers[0]);
            case "join" -> join(numbers[0], numbers[1]);
            case "quit" -> quit(numbers[0], numbers[1]);
            case "change" -> change(numbers[0], numbers[1], numbers[2]);
            default -> arrange();
        }
    }

    int errorPosition() {
        return present(errorPosition);
    }

    int failedCommand() {
        return present(failedCommand);
    }

    int failureKind() {
        return present(failureKind);
    }

    // ---- undo and snapshots

    int undo() {
        state(!undoable.isEmpty());
        now = undoable.remove(undoable.size() - 1);
        return undoable.size();
    }

    int save() {
        snapshot = now.copy();
        return now.pupils.size();
    }

    int restore() {
        state(snapshot != null);
        now = snapshot.copy();
        undoable.clear();
        return now.pupils.size();
    }
}
