import java.util.NoSuchElementException;

/**
 * A planner for the option blocks of a school year.
 *
 * Subjects are taught in classes that lie in timetable blocks; pupils rank the subjects that they
 * wish to take, are placed in classes of limited size, and join other subjects later, by chains
 * that move as few other pupils as possible.
 */
public final class OptionBlockPlanner {
    /** There is no such subject or block. */
    public static final int NONE = -1;
    /** Reasons of refusals. */
    public static final int NOT_OPEN = 1, NOT_FREE = 2, FULL = 3;
    /** Kinds of failures of commands. */
    public static final int BAD_INDEX = 1, BAD_ARGUMENT = 2, BAD_STATE = 3, REFUSED = 4;

    private static final int MOST_SUBJECTS = 7, MOST_BLOCKS = 4, MOST_PUPILS = 12, MOST_WISHES = 3;
    private static final int BLOCKS_AT_FIRST = 3, LARGEST_SIZE = 9;
    // The longest sets are those of sets of blocks.
    private static final int MOST_MEMBERS = 1 << MOST_BLOCKS;
    private static final int MOST_UNDONE = 8, MOST_CHARACTERS = 60;
    private static final int FIRST_CHARACTER = 32, LAST_CHARACTER = 126;

    // What a check answers when nothing keeps a modification from being made; no kind has this number.
    private static final int FINE = 0;

    // The modifications that programs know too, numbered in the order of the grammar.
    private static final int SUBJECT = 0, BLOCKS = 1, OPEN = 2, CLOSE = 3, PUPIL = 4, WISH = 5;
    private static final int RESERVE = 6, ENROL = 7, JOIN = 8, QUIT = 9, CHANGE = 10, ARRANGE = 11;
    private static final int COMMANDS = 12;

    private final Plan plan;
    private final Placements placements;
    private final Chains chains;
    private final Arrangements arrangements;
    private final Changes changes;
    private final History history;
    private final Plan snapshot;
    private final Plan beforeProgram;
    private final Program program;
    private final StringBuilder line;
    private boolean saved;
    private int errorAt;
    private int failedAt;
    private int failure;

    public OptionBlockPlanner() {
        plan = new Plan();
        placements = new Placements(plan);
        chains = new Chains(plan);
        arrangements = new Arrangements(plan);
        changes = new Changes(plan, placements, chains, arrangements);
        history = new History();
        snapshot = new Plan();
        beforeProgram = new Plan();
        program = new Program();
        line = new StringBuilder();
        errorAt = NONE;
        failedAt = NONE;
        failure = FINE;
    }

    // ---- subjects, blocks and classes

    public int addSubject(int size) throws IllegalArgumentException, IllegalStateException {
        return make(SUBJECT, size, 0, 0);
    }

    public int setSize(int subject, int size)
            throws IndexOutOfBoundsException, IllegalArgumentException, IllegalStateException {
        throwFault(changes.faultOfResizing(subject, size));
        history.keep(plan);
        return plan.resize(subject, size);
    }

    public int subjectCount() {
        return plan.subjects;
    }

    public int sizeOf(int subject) throws IndexOutOfBoundsException {
        needIndex(plan.hasSubject(subject));
        return read(plan.sizes, subject);
    }

    public int setBlockCount(int count) throws IllegalArgumentException, IllegalStateException {
        return make(BLOCKS, count, 0, 0);
    }

    public int blockCount() {
        return plan.blocks;
    }

    public int openClass(int subject, int block) throws IndexOutOfBoundsException, IllegalStateException {
        return make(OPEN, subject, block, 0);
    }

    public int closeClass(int subject, int block) throws IndexOutOfBoundsException, IllegalStateException {
        return make(CLOSE, subject, block, 0);
    }

    public boolean isOpen(int subject, int block) throws IndexOutOfBoundsException {
        needIndex(plan.hasClass(subject, block));
        return holds(plan.openBlocks(subject), block);
    }

    public int pupilsInClass(int subject, int block) throws IndexOutOfBoundsException {
        needIndex(plan.hasClass(subject, block));
        return Integer.bitCount(plan.roster(subject, block));
    }

    public int pupilInClass(int subject, int block, int index)
            throws IndexOutOfBoundsException, NoSuchElementException {
        needIndex(plan.hasClass(subject, block));
        int roster = plan.roster(subject, block);
        needElement(index >= 0 && index < Integer.bitCount(roster));
        return memberAt(roster, index);
    }

    // ---- pupils

    public int addPupil() throws IllegalStateException {
        return make(PUPIL, 0, 0, 0);
    }

    public int pupilCount() {
        return plan.pupils;
    }

    public int addWish(int pupil, int subject) throws IndexOutOfBoundsException, IllegalStateException {
        return make(WISH, pupil, subject, 0);
    }

    public int setReserve(int pupil, int subject) throws IndexOutOfBoundsException, IllegalStateException {
        return make(RESERVE, pupil, subject, 0);
    }

    public int wishCount(int pupil) throws IndexOutOfBoundsException {
        needIndex(plan.hasPupil(pupil));
        return read(plan.wishCounts, pupil);
    }

    public int wishAt(int pupil, int rank) throws IndexOutOfBoundsException, NoSuchElementException {
        needIndex(plan.hasPupil(pupil));
        needElement(rank >= 0 && rank < read(plan.wishCounts, pupil));
        return plan.wish(pupil, rank);
    }

    public int reserveOf(int pupil) throws IndexOutOfBoundsException {
        needIndex(plan.hasPupil(pupil));
        return read(plan.reserves, pupil);
    }

    public int subjectIn(int pupil, int block) throws IndexOutOfBoundsException {
        needIndex(plan.hasPupil(pupil) && plan.hasBlock(block));
        return plan.lesson(pupil, block);
    }

    public int blockOf(int pupil, int subject) throws IndexOutOfBoundsException {
        needIndex(plan.hasPupil(pupil) && plan.hasSubject(subject));
        return plan.blockTaken(pupil, subject);
    }

    // ---- placements

    public int enrol(int pupil) throws IndexOutOfBoundsException, IllegalStateException {
        return make(ENROL, pupil, 0, 0);
    }

    public int enrolAll() {
        history.keep(plan);
        int served = 0;
        for (int pupil = 0; pupil < plan.pupils; pupil++) {
            if (changes.faultOfEnrolling(pupil) == FINE) {
                placements.giveBest(pupil);
                served += plan.attendsWishes(pupil) ? 1 : 0;
            }
        }
        return served;
    }

    public int withdraw(int pupil) throws IndexOutOfBoundsException, IllegalStateException {
        throwFault(changes.faultOfWithdrawing(pupil));
        history.keep(plan);
        return plan.dropLessons(pupil);
    }

    public int bestValue(int pupil) throws IndexOutOfBoundsException {
        needIndex(plan.hasPupil(pupil));
        return placements.valueBySearch(pupil);
    }

    public int bestValueBySets(int pupil) throws IndexOutOfBoundsException {
        needIndex(plan.hasPupil(pupil));
        return placements.valueBySets(pupil);
    }

    public boolean canServe(int pupil) throws IndexOutOfBoundsException {
        needIndex(plan.hasPupil(pupil));
        return placements.servesBySearch(pupil);
    }

    public boolean canServeByCounting(int pupil) throws IndexOutOfBoundsException {
        needIndex(plan.hasPupil(pupil));
        return placements.servesByCounting(pupil);
    }

    public int servedCount() {
        int served = 0;
        for (int pupil = 0; pupil < plan.pupils; pupil++) {
            served += plan.attendsWishes(pupil) ? 1 : 0;
        }
        return served;
    }

    public double meanClassSize() throws ArithmeticException {
        int classes = plan.openClasses();
        if (classes <= 0) {
            throw new ArithmeticException("no class is open");
        }
        // Pupils are only in open classes, so every lesson counts.
        return (double) plan.lessonsOfAll() / (double) classes;
    }

    // ---- late changes

    public int movesFor(int pupil, int subject)
            throws IndexOutOfBoundsException, IllegalStateException, NoSuchElementException {
        throwFault(changes.faultOfJoiner(pupil, subject));
        int moves = chains.fewestMoves(subject, plan.freeBlocks(pupil));
        needElement(moves != NONE);
        return moves;
    }

    public int movesByTrial(int pupil, int subject)
            throws IndexOutOfBoundsException, IllegalStateException, NoSuchElementException {
        throwFault(changes.faultOfJoiner(pupil, subject));
        int moves = chains.fewestMovesByTrial(subject, plan.freeBlocks(pupil));
        needElement(moves != NONE);
        return moves;
    }

    public int join(int pupil, int subject)
            throws IndexOutOfBoundsException, IllegalStateException, UnsupportedOperationException {
        return make(JOIN, pupil, subject, 0);
    }

    public int quit(int pupil, int subject) throws IndexOutOfBoundsException, IllegalStateException {
        return make(QUIT, pupil, subject, 0);
    }

    public int change(int pupil, int from, int to)
            throws IndexOutOfBoundsException, IllegalStateException, UnsupportedOperationException {
        return make(CHANGE, pupil, from, to);
    }

    public int refusalReason() throws NoSuchElementException {
        needElement(changes.lastRefusal != FINE);
        return changes.lastRefusal;
    }

    public int chainMoves() throws NoSuchElementException {
        needElement(plan.chainLength != NONE);
        return plan.chainLength;
    }

    public int chainPupil(int move) throws NoSuchElementException {
        needElement(move >= 0 && move < plan.chainLength);
        return read(plan.chainPupils, move);
    }

    public int chainBlock(int move) throws NoSuchElementException {
        needElement(move >= 0 && move < plan.chainLength);
        return read(plan.chainBlocks, move);
    }

    // ---- clashes and arrangements

    public int commonWishes(int subject, int other) throws IndexOutOfBoundsException, IllegalArgumentException {
        needPair(subject, other);
        return plan.wishersOfBoth(subject, other);
    }

    public boolean doClash(int subject, int other) throws IndexOutOfBoundsException, IllegalArgumentException {
        needPair(subject, other);
        return plan.clash(subject, other);
    }

    public int clashCount() {
        int clashes = 0;
        for (int subject = 0; subject < plan.subjects; subject++) {
            for (int other = 0; other < subject; other++) {
                if (plan.clash(subject, other)) {
                    clashes += plan.wishersOfBoth(subject, other);
                }
            }
        }
        return clashes;
    }

    public int leastClashes() {
        return arrangements.findBest();
    }

    public int leastClashesByTrial() {
        return arrangements.fewestByTrial();
    }

    public int arrange() throws IllegalStateException {
        return make(ARRANGE, 0, 0, 0);
    }

    // ---- line and programs

    public int writeTimetable(int pupil) throws IndexOutOfBoundsException {
        needIndex(plan.hasPupil(pupil));
        line.setLength(0);
        line.append(pupil);
        line.append(':');
        for (int block = 0; block < plan.blocks; block++) {
            line.append(' ');
            writeLesson(pupil, plan.lesson(pupil, block));
        }
        return line.length();
    }

    public char lineAt(int index) throws IndexOutOfBoundsException {
        needIndex(index >= 0 && index < line.length());
        return line.charAt(index);
    }

    public int type(char character) throws IllegalArgumentException, IllegalStateException {
        if (character < FIRST_CHARACTER || character > LAST_CHARACTER) {
            throw new IllegalArgumentException("a character that cannot be typed");
        }
        if (program.text.length() >= MOST_CHARACTERS) {
            throw new IllegalStateException("the buffer is full");
        }
        program.text.append(character);
        return program.text.length();
    }

    public int execute() throws IllegalArgumentException, IllegalStateException {
        int wrongAt = program.parse();
        program.text.setLength(0);
        if (wrongAt != NONE) {
            errorAt = wrongAt;
            throw new IllegalArgumentException("the program is malformed");
        }
        beforeProgram.copyFrom(plan);
        for (int command = 0; command < program.count; command++) {
            int modification = program.modification(command);
            int first = program.number(command, 0);
            int second = program.number(command, 1);
            int third = program.number(command, 2);
            int fault = changes.faultOf(modification, first, second, third);
            if (fault != FINE) {
                plan.copyFrom(beforeProgram);
                failedAt = command;
                failure = fault;
                throw new IllegalStateException("a command failed");
            }
            changes.perform(modification, first, second, third);
        }
        history.keep(beforeProgram);
        return program.count;
    }

    public int errorPosition() throws NoSuchElementException {
        needElement(errorAt != NONE);
        return errorAt;
    }

    public int failedCommand() throws NoSuchElementException {
        needElement(failedAt != NONE);
        return failedAt;
    }

    public int failureKind() throws NoSuchElementException {
        needElement(failure != FINE);
        return failure;
    }

    // ---- undo and snapshots

    public int undo() throws IllegalStateException {
        if (history.count <= 0) {
            throw new IllegalStateException("nothing can be undone");
        }
        history.bringBack(plan);
        return history.count;
    }

    public int save() {
        snapshot.copyFrom(plan);
        saved = true;
        return plan.pupils;
    }

    public int restore() throws IllegalStateException {
        if (!saved) {
            throw new IllegalStateException("there is no snapshot");
        }
        plan.copyFrom(snapshot);
        history.forget();
        return plan.pupils;
    }

    // ---- behind the face

    private int make(int modification, int first, int second, int third) {
        throwFault(changes.faultOf(modification, first, second, third));
        history.keep(plan);
        return changes.perform(modification, first, second, third);
    }

    private void writeLesson(int pupil, int subject) {
        if (subject == NONE) {
            line.append('-');
            return;
        }
        line.append(subject);
        if (subject == read(plan.reserves, pupil)) {
            line.append('!');
        }
    }

    private void needPair(int subject, int other) {
        needIndex(plan.hasSubject(subject) && plan.hasSubject(other));
        if (subject == other) {
            throw new IllegalArgumentException("twice the same subject");
        }
    }

    private static void needIndex(boolean exists) {
        if (!exists) {
            throw new IndexOutOfBoundsException("no such number");
        }
    }

    private static void needElement(boolean exists) {
        if (!exists) {
            throw new NoSuchElementException("there is none");
        }
    }

    private static void throwFault(int kind) {
        switch (kind) {
            case BAD_INDEX:
                throw new IndexOutOfBoundsException("no such number");
            case BAD_ARGUMENT:
                throw new IllegalArgumentException("out of range");
            case BAD_STATE:
                throw new IllegalStateException("not in this state");
            case REFUSED:
                throw new UnsupportedOperationException("refused");
            default:
                break;
        }
    }

    // All rows of numbers are read and written here alone, so that no index reaches the machine untested.

    private static int read(int[] row, int index) {
        return index >= 0 && index < row.length ? row[index] : NONE;
    }

    private static void write(int[] row, int index, int value) {
        if (index >= 0 && index < row.length) {
            row[index] = value;
        }
    }

    private static void copyRow(int[] from, int[] to) {
        System.arraycopy(from, 0, to, 0, Math.min(from.length, to.length));
    }

    // Sets of pupils, of subjects, of blocks, and of sets of blocks are the bits of an int.

    private static boolean holds(int set, int member) {
        return member >= 0 && member < MOST_MEMBERS && (set >> member & 1) == 1;
    }

    /** The member of a set before which there are so many lower ones, NONE if there is none. */
    private static int memberAt(int set, int lower) {
        int left = lower;
        for (int member = 0; member < MOST_MEMBERS; member++) {
            if (holds(set, member)) {
                if (left == 0) {
                    return member;
                }
                left--;
            }
        }
        return NONE;
    }

    /** All that undo and restore bring back. */
    private static final class Plan {
        private int subjects;
        private int blocks;
        private int pupils;
        private final int[] sizes;
        private final int[] openSets;
        // For each class, the set of its pupils.
        private final int[] rosters;
        private final int[] wishCounts;
        private final int[] wishes;
        private final int[] reserves;
        private int chainLength;
        private final int[] chainPupils;
        private final int[] chainBlocks;

        Plan() {
            blocks = BLOCKS_AT_FIRST;
            sizes = new int[MOST_SUBJECTS];
            openSets = new int[MOST_SUBJECTS];
            rosters = new int[MOST_SUBJECTS * MOST_BLOCKS];
            wishCounts = new int[MOST_PUPILS];
            wishes = new int[MOST_PUPILS * MOST_WISHES];
            reserves = new int[MOST_PUPILS];
            chainLength = NONE;
            // The best chain enters no class twice, so it has fewer moves than there are blocks.
            chainPupils = new int[MOST_BLOCKS];
            chainBlocks = new int[MOST_BLOCKS];
        }

        void copyFrom(Plan other) {
            subjects = other.subjects;
            blocks = other.blocks;
            pupils = other.pupils;
            copyRow(other.sizes, sizes);
            copyRow(other.openSets, openSets);
            copyRow(other.rosters, rosters);
            copyRow(other.wishCounts, wishCounts);
            copyRow(other.wishes, wishes);
            copyRow(other.reserves, reserves);
            chainLength = other.chainLength;
            copyRow(other.chainPupils, chainPupils);
            copyRow(other.chainBlocks, chainBlocks);
        }

        // -- subjects, blocks and classes

        boolean hasSubject(int subject) {
            return subject >= 0 && subject < subjects;
        }

        boolean hasBlock(int block) {
            return block >= 0 && block < blocks;
        }

        boolean hasClass(int subject, int block) {
            return hasSubject(subject) && hasBlock(block);
        }

        int openBlocks(int subject) {
            return hasSubject(subject) ? read(openSets, subject) : 0;
        }

        int openClasses() {
            int classes = 0;
            for (int subject = 0; subject < subjects; subject++) {
                classes += Integer.bitCount(openBlocks(subject));
            }
            return classes;
        }

        int roster(int subject, int block) {
            boolean exists = subject >= 0 && subject < MOST_SUBJECTS && block >= 0 && block < MOST_BLOCKS;
            return exists ? read(rosters, subject * MOST_BLOCKS + block) : 0;
        }

        int largestClass(int subject) {
            int largest = 0;
            for (int block = 0; block < blocks; block++) {
                largest = Math.max(largest, Integer.bitCount(roster(subject, block)));
            }
            return largest;
        }

        /** The blocks in which the class of the subject has room, if the pupils of a set are not counted. */
        int roomyBlocks(int subject, int except) {
            int open = openBlocks(subject);
            int roomy = 0;
            for (int block = 0; block < blocks; block++) {
                int count = Integer.bitCount(roster(subject, block) & ~except);
                if (holds(open, block) && count < read(sizes, subject)) {
                    roomy |= 1 << block;
                }
            }
            return roomy;
        }

        boolean clash(int subject, int other) {
            for (int block = 0; block < blocks; block++) {
                int others = openBlocks(other) & ~(1 << block);
                if (holds(openBlocks(subject), block) && others != 0) {
                    return false;
                }
            }
            return true;
        }

        int newSubject(int size) {
            write(sizes, subjects, size);
            subjects++;
            return subjects - 1;
        }

        int resize(int subject, int size) {
            int previous = read(sizes, subject);
            write(sizes, subject, size);
            return previous;
        }

        int setBlocks(int count) {
            int previous = blocks;
            blocks = count;
            return previous;
        }

        int setOpenBlocks(int subject, int open) {
            write(openSets, subject, open);
            return Integer.bitCount(open);
        }

        // -- pupils

        boolean hasPupil(int pupil) {
            return pupil >= 0 && pupil < pupils;
        }

        int wish(int pupil, int rank) {
            return rank >= 0 && rank < MOST_WISHES ? read(wishes, pupil * MOST_WISHES + rank) : NONE;
        }

        int wishSet(int pupil) {
            int count = read(wishCounts, pupil);
            int set = 0;
            for (int rank = 0; rank < count; rank++) {
                set |= 1 << read(wishes, pupil * MOST_WISHES + rank);
            }
            return set;
        }

        int wishersOfBoth(int subject, int other) {
            int wishers = 0;
            for (int pupil = 0; pupil < pupils; pupil++) {
                int set = wishSet(pupil);
                wishers += holds(set, subject) && holds(set, other) ? 1 : 0;
            }
            return wishers;
        }

        int newPupil() {
            write(reserves, pupils, NONE);
            pupils++;
            return pupils - 1;
        }

        int newWish(int pupil, int subject) {
            int rank = read(wishCounts, pupil);
            write(wishes, pupil * MOST_WISHES + rank, subject);
            write(wishCounts, pupil, rank + 1);
            return rank + 1;
        }

        int newReserve(int pupil, int subject) {
            int previous = read(reserves, pupil);
            write(reserves, pupil, subject);
            return previous;
        }

        // -- timetables

        void enter(int pupil, int subject, int block) {
            if (hasClass(subject, block)) {
                write(rosters, subject * MOST_BLOCKS + block, roster(subject, block) | 1 << pupil);
            }
        }

        void leave(int pupil, int subject, int block) {
            if (hasClass(subject, block)) {
                write(rosters, subject * MOST_BLOCKS + block, roster(subject, block) & ~(1 << pupil));
            }
        }

        int lesson(int pupil, int block) {
            for (int subject = 0; subject < subjects; subject++) {
                if (holds(roster(subject, block), pupil)) {
                    return subject;
                }
            }
            return NONE;
        }

        int blockTaken(int pupil, int subject) {
            for (int block = 0; block < blocks; block++) {
                if (holds(roster(subject, block), pupil)) {
                    return block;
                }
            }
            return NONE;
        }

        int busyPupils(int block) {
            int busy = 0;
            for (int subject = 0; subject < subjects; subject++) {
                busy |= roster(subject, block);
            }
            return busy;
        }

        int freeBlocks(int pupil) {
            int free = 0;
            for (int block = 0; block < blocks; block++) {
                free |= holds(busyPupils(block), pupil) ? 0 : 1 << block;
            }
            return free;
        }

        int lessonsOf(int pupil) {
            int lessons = 0;
            for (int block = 0; block < blocks; block++) {
                lessons += holds(busyPupils(block), pupil) ? 1 : 0;
            }
            return lessons;
        }

        int lessonsOfAll() {
            int lessons = 0;
            for (int block = 0; block < blocks; block++) {
                lessons += Integer.bitCount(busyPupils(block));
            }
            return lessons;
        }

        /** Whether the pupil has wishes and attends all of them. */
        boolean attendsWishes(int pupil) {
            int count = read(wishCounts, pupil);
            for (int rank = 0; rank < count; rank++) {
                if (blockTaken(pupil, wish(pupil, rank)) == NONE) {
                    return false;
                }
            }
            return count > 0;
        }

        int dropLesson(int pupil, int subject) {
            int block = blockTaken(pupil, subject);
            leave(pupil, subject, block);
            return block;
        }

        int dropLessons(int pupil) {
            int dropped = lessonsOf(pupil);
            for (int block = 0; block < blocks; block++) {
                leave(pupil, lesson(pupil, block), block);
            }
            return dropped;
        }

        // -- chains

        void noteMove(int move, int pupil, int block) {
            write(chainPupils, move, pupil);
            write(chainBlocks, move, block);
        }

        void makeMoves(int subject, int entry, int moves) {
            chainLength = moves;
            int from = entry;
            for (int move = 0; move < moves; move++) {
                int to = read(chainBlocks, move);
                leave(read(chainPupils, move), subject, from);
                enter(read(chainPupils, move), subject, to);
                from = to;
            }
        }
    }

    /** Searches for the best placement of a pupil. */
    private static final class Placements {
        // A placement has a part for each rank, and a last one for the reserve.
        private static final int RESERVE_PART = MOST_WISHES;

        private final Plan plan;
        private final int[] usable;
        private final int[] tried;
        private final int[] best;
        private int fullScore;
        private int bestScore;

        Placements(Plan plan) {
            this.plan = plan;
            usable = new int[MOST_WISHES + 1];
            tried = new int[MOST_WISHES + 1];
            best = new int[MOST_WISHES + 1];
        }

        int valueBySearch(int pupil) {
            collectRoomy(pupil);
            return findBest();
        }

        /** Gives the pupil, whose timetable is empty, the classes of its best placement. */
        int giveBest(int pupil) {
            collectRoomy(pupil);
            int value = findBest();
            int count = read(plan.wishCounts, pupil);
            for (int rank = 0; rank < count; rank++) {
                plan.enter(pupil, plan.wish(pupil, rank), read(best, rank));
            }
            plan.enter(pupil, read(plan.reserves, pupil), read(best, RESERVE_PART));
            return value;
        }

        int valueBySets(int pupil) {
            collectRoomy(pupil);
            for (int value = (1 << MOST_WISHES) - 1; value > 0; value--) {
                if (setsUsedFor(value) != 0) {
                    return value;
                }
            }
            return 0;
        }

        boolean servesBySearch(int pupil) {
            collectOpen(pupil);
            return serve(usable, read(plan.wishCounts, pupil), 0, 0);
        }

        boolean servesByCounting(int pupil) {
            collectOpen(pupil);
            int wishSets = 1 << Math.max(0, read(plan.wishCounts, pupil));
            for (int wishes = 1; wishes < wishSets; wishes++) {
                int blocks = 0;
                for (int rank = 0; rank < MOST_WISHES; rank++) {
                    if (holds(wishes, rank)) {
                        blocks |= read(usable, rank);
                    }
                }
                if (Integer.bitCount(blocks) < Integer.bitCount(wishes)) {
                    return false;
                }
            }
            return true;
        }

        private void collectRoomy(int pupil) {
            int count = read(plan.wishCounts, pupil);
            fullScore = 0;
            for (int rank = 0; rank < MOST_WISHES; rank++) {
                boolean wished = rank < count;
                write(usable, rank, wished ? plan.roomyBlocks(plan.wish(pupil, rank), 1 << pupil) : 0);
                fullScore += wished ? scoreOf(rank) : 0;
            }
            write(usable, RESERVE_PART, plan.roomyBlocks(read(plan.reserves, pupil), 1 << pupil));
        }

        private void collectOpen(int pupil) {
            int count = read(plan.wishCounts, pupil);
            for (int rank = 0; rank < MOST_WISHES; rank++) {
                write(usable, rank, rank < count ? plan.openBlocks(plan.wish(pupil, rank)) : 0);
            }
        }

        /** Finds the best placement in the usable blocks, and answers its value. */
        private int findBest() {
            bestScore = NONE;
            extend(this, 0, 0, 0);
            return bestScore >> 1;
        }

        // Twice the values of the wishes, and 1 for the reserve, so that it decides only between equal values.
        private static int scoreOf(int part) {
            return 1 << (RESERVE_PART - part);
        }

        // Lower blocks come first, so of equally good placements the first one that is met is the best.
        private static void extend(Placements search, int part, int taken, int score) {
            if (part > RESERVE_PART) {
                search.keepIfBetter(score);
                return;
            }
            boolean wanted = part < RESERVE_PART || score < search.fullScore;
            int blocks = wanted ? read(search.usable, part) & ~taken : 0;
            for (int block = 0; block < MOST_BLOCKS; block++) {
                if (holds(blocks, block)) {
                    write(search.tried, part, block);
                    extend(search, part + 1, taken | 1 << block, score + scoreOf(part));
                }
            }
            write(search.tried, part, NONE);
            extend(search, part + 1, taken, score);
        }

        private void keepIfBetter(int score) {
            if (score > bestScore) {
                bestScore = score;
                copyRow(tried, best);
            }
        }

        /** The sets of blocks that the wishes whose values add up to this can use, each set a bit. */
        private int setsUsedFor(int value) {
            int sets = 1;
            for (int rank = 0; rank < MOST_WISHES; rank++) {
                if (holds(value, MOST_WISHES - 1 - rank)) {
                    sets = setsWithOneOf(sets, read(usable, rank));
                }
            }
            return sets;
        }

        private static int setsWithOneOf(int sets, int blocks) {
            int extended = 0;
            for (int set = 0; set < MOST_MEMBERS; set++) {
                for (int block = 0; block < MOST_BLOCKS; block++) {
                    if (holds(sets, set) && holds(blocks & ~set, block)) {
                        extended |= 1 << (set | 1 << block);
                    }
                }
            }
            return extended;
        }

        private static boolean serve(int[] usable, int count, int rank, int taken) {
            if (rank >= count || rank >= MOST_WISHES) {
                return true;
            }
            for (int block = 0; block < MOST_BLOCKS; block++) {
                if (holds(read(usable, rank) & ~taken, block)
                        && serve(usable, count, rank + 1, taken | 1 << block)) {
                    return true;
                }
            }
            return false;
        }
    }

    /** Searches for the best chain by which a pupil who is free in some blocks joins a subject. */
    private static final class Chains {
        private final Plan plan;
        // For each block, the pupils of the class of the subject, and those of all classes.
        private final int[] rosters;
        private final int[] busy;
        // For each block, the moves after which the class has room for one more; NONE if no moves help.
        private final int[] distances;

        Chains(Plan plan) {
            this.plan = plan;
            rosters = new int[MOST_BLOCKS];
            busy = new int[MOST_BLOCKS];
            distances = new int[MOST_BLOCKS];
        }

        /** The number of moves of the best chain, NONE if there is no chain. */
        int fewestMoves(int subject, int freeBlocks) {
            int roomy = plan.roomyBlocks(subject, 0);
            for (int block = 0; block < MOST_BLOCKS; block++) {
                write(rosters, block, plan.roster(subject, block));
                write(busy, block, plan.busyPupils(block));
                write(distances, block, holds(roomy, block) ? 0 : NONE);
            }
            for (int moves = 1; moves < MOST_BLOCKS; moves++) {
                measure(moves);
            }
            return read(distances, nearest(freeBlocks));
        }

        int fewestMovesByTrial(int subject, int freeBlocks) {
            int entries = freeBlocks & plan.openBlocks(subject);
            for (int moves = 0; moves < MOST_BLOCKS; moves++) {
                for (int entry = 0; entry < MOST_BLOCKS; entry++) {
                    if (holds(entries, entry) && leadsToRoom(plan, subject, entry, moves, 1 << entry)) {
                        return moves;
                    }
                }
            }
            return NONE;
        }

        int reasonAgainst(int subject, int freeBlocks) {
            int open = plan.openBlocks(subject);
            if (open == 0) {
                return NOT_OPEN;
            }
            return (open & freeBlocks) == 0 ? NOT_FREE : FULL;
        }

        /** Carries out the best chain, which exists, and answers the number of its moves. */
        int carryOut(int pupil, int subject) {
            int freeBlocks = plan.freeBlocks(pupil);
            int moves = fewestMoves(subject, freeBlocks);
            int entry = nearest(freeBlocks);
            int from = entry;
            for (int move = 0; move < moves; move++) {
                int to = nextBlock(from, moves - move - 1);
                plan.noteMove(move, memberAt(read(rosters, from) & ~read(busy, to), 0), to);
                from = to;
            }
            plan.makeMoves(subject, entry, moves);
            plan.enter(pupil, subject, entry);
            return moves;
        }

        private void measure(int moves) {
            for (int block = 0; block < MOST_BLOCKS; block++) {
                if (read(distances, block) == NONE && nextBlock(block, moves - 1) != NONE) {
                    write(distances, block, moves);
                }
            }
        }

        /** The lowest block at a distance into which a pupil can move, NONE if there is none. */
        private int nextBlock(int from, int distance) {
            for (int to = 0; to < MOST_BLOCKS; to++) {
                int movers = read(rosters, from) & ~read(busy, to);
                if (read(distances, to) == distance && movers != 0) {
                    return to;
                }
            }
            return NONE;
        }

        private int nearest(int freeBlocks) {
            int nearest = NONE;
            for (int block = 0; block < MOST_BLOCKS; block++) {
                int distance = read(distances, block);
                boolean possible = holds(freeBlocks, block) && distance != NONE;
                if (possible && (nearest == NONE || distance < read(distances, nearest))) {
                    nearest = block;
                }
            }
            return nearest;
        }

        // A class that comes up twice only makes the chain longer, so those met before are left out.
        private static boolean leadsToRoom(Plan plan, int subject, int from, int moves, int met) {
            if (moves <= 0 || moves > MOST_BLOCKS) {
                return holds(plan.roomyBlocks(subject, 0), from);
            }
            int others = plan.openBlocks(subject) & ~met;
            for (int to = 0; to < MOST_BLOCKS; to++) {
                int movers = plan.roster(subject, from) & ~plan.busyPupils(to);
                if (holds(others, to) && movers != 0
                        && leadsToRoom(plan, subject, to, moves - 1, met | 1 << to)) {
                    return true;
                }
            }
            return false;
        }
    }

    /** Searches for the arrangement with the fewest clashes. */
    private static final class Arrangements {
        // Three wishes make three pairs, so no arrangement has as many clashes.
        private static final int MORE_THAN_ANY = MOST_PUPILS * MOST_WISHES + 1;

        private final Plan plan;
        private final int[] common;
        private final int[] tried;
        private final int[] best;
        // For each subject, the clashes that each block adds for it, with the subjects below it as tried.
        private final int[] added;
        private int fewest;

        Arrangements(Plan plan) {
            this.plan = plan;
            common = new int[MOST_SUBJECTS * MOST_SUBJECTS];
            tried = new int[MOST_SUBJECTS];
            best = new int[MOST_SUBJECTS];
            added = new int[MOST_SUBJECTS * MOST_BLOCKS];
        }

        /** Finds the best arrangement, and answers the number of its clashes. */
        int findBest() {
            collectCommon();
            fewest = MORE_THAN_ANY;
            settle(this, 0, 0);
            return fewest;
        }

        int fewestByTrial() {
            collectCommon();
            return tryAll(this, 0, 0);
        }

        /** Opens the classes of the best arrangement alone, and answers the number of its clashes. */
        int carryOut() {
            int clashes = findBest();
            for (int subject = 0; subject < plan.subjects; subject++) {
                plan.setOpenBlocks(subject, 1 << read(best, subject));
            }
            return clashes;
        }

        private void collectCommon() {
            for (int cell = 0; cell < MOST_SUBJECTS * MOST_SUBJECTS; cell++) {
                write(common, cell, 0);
            }
            for (int pupil = 0; pupil < plan.pupils; pupil++) {
                countPairs(plan.wishSet(pupil));
            }
        }

        private void countPairs(int wishes) {
            for (int subject = 0; subject < MOST_SUBJECTS; subject++) {
                for (int other = 0; other < MOST_SUBJECTS; other++) {
                    if (holds(wishes, subject) && holds(wishes, other)) {
                        int cell = subject * MOST_SUBJECTS + other;
                        write(common, cell, read(common, cell) + 1);
                    }
                }
            }
        }

        // Lower blocks come first, so of equally good arrangements the first one that is met is the best.
        private static void settle(Arrangements search, int subject, int clashes) {
            if (clashes >= search.fewest) {
                return;
            }
            if (subject >= search.plan.subjects || subject >= MOST_SUBJECTS) {
                search.fewest = clashes;
                copyRow(search.tried, search.best);
                return;
            }
            search.weigh(subject);
            for (int block = 0; block < search.plan.blocks; block++) {
                write(search.tried, subject, block);
                settle(search, subject + 1, clashes + read(search.added, subject * MOST_BLOCKS + block));
            }
        }

        private static int tryAll(Arrangements search, int subject, int clashes) {
            if (subject >= search.plan.subjects || subject >= MOST_SUBJECTS) {
                return clashes;
            }
            search.weigh(subject);
            int least = MORE_THAN_ANY;
            for (int block = 0; block < search.plan.blocks; block++) {
                write(search.tried, subject, block);
                int more = read(search.added, subject * MOST_BLOCKS + block);
                least = Math.min(least, tryAll(search, subject + 1, clashes + more));
            }
            return least;
        }

        private void weigh(int subject) {
            int start = subject * MOST_BLOCKS;
            for (int block = 0; block < MOST_BLOCKS; block++) {
                write(added, start + block, 0);
            }
            for (int other = 0; other < subject; other++) {
                int cell = start + read(tried, other);
                write(added, cell, read(added, cell) + read(common, subject * MOST_SUBJECTS + other));
            }
        }
    }

    /** Checks the modifications and makes them, and keeps the reason of the last refusal. */
    private static final class Changes {
        private final Plan plan;
        private final Placements placements;
        private final Chains chains;
        private final Arrangements arrangements;
        private int lastRefusal;

        Changes(Plan plan, Placements placements, Chains chains, Arrangements arrangements) {
            this.plan = plan;
            this.placements = placements;
            this.chains = chains;
            this.arrangements = arrangements;
            lastRefusal = FINE;
        }

        /** The kind of the exception that the modification throws, or FINE; notes the reason of a refusal. */
        int faultOf(int modification, int first, int second, int third) {
            switch (modification) {
                case SUBJECT:
                    return faultOfNewSubject(first);
                case BLOCKS:
                    return faultOfBlocks(first);
                case OPEN:
                    return faultOfOpening(first, second);
                case CLOSE:
                    return faultOfClosing(first, second);
                case PUPIL:
                    return plan.pupils >= MOST_PUPILS ? BAD_STATE : FINE;
                case WISH:
                    return faultOfWish(first, second);
                case RESERVE:
                    return faultOfReserve(first, second);
                case ENROL:
                    return faultOfEnrolling(first);
                case JOIN:
                    return faultOfJoining(first, second);
                case QUIT:
                    return faultOfQuitting(first, second);
                case CHANGE:
                    return faultOfChanging(first, second, third);
                case ARRANGE:
                    return plan.lessonsOfAll() > 0 ? BAD_STATE : FINE;
                default:
                    return FINE;
            }
        }

        /** Makes a modification in which no fault was found, and answers what it returns. */
        int perform(int modification, int first, int second, int third) {
            switch (modification) {
                case SUBJECT:
                    return plan.newSubject(first);
                case BLOCKS:
                    return plan.setBlocks(first);
                case OPEN:
                    return plan.setOpenBlocks(first, plan.openBlocks(first) | 1 << second);
                case CLOSE:
                    return plan.setOpenBlocks(first, plan.openBlocks(first) & ~(1 << second));
                case PUPIL:
                    return plan.newPupil();
                case WISH:
                    return plan.newWish(first, second);
                case RESERVE:
                    return plan.newReserve(first, second);
                case ENROL:
                    return placements.giveBest(first);
                case JOIN:
                    return chains.carryOut(first, second);
                case QUIT:
                    return plan.dropLesson(first, second);
                case CHANGE:
                    plan.dropLesson(first, second);
                    return chains.carryOut(first, third);
                case ARRANGE:
                    return arrangements.carryOut();
                default:
                    return NONE;
            }
        }

        /** What keeps a pupil from joining a subject before any chain is looked for. */
        int faultOfJoiner(int pupil, int subject) {
            if (!plan.hasPupil(pupil) || !plan.hasSubject(subject)) {
                return BAD_INDEX;
            }
            return plan.blockTaken(pupil, subject) != NONE ? BAD_STATE : FINE;
        }

        private int faultOfNewSubject(int size) {
            if (size < 1 || size > LARGEST_SIZE) {
                return BAD_ARGUMENT;
            }
            return plan.subjects >= MOST_SUBJECTS ? BAD_STATE : FINE;
        }

        int faultOfResizing(int subject, int size) {
            if (!plan.hasSubject(subject)) {
                return BAD_INDEX;
            }
            if (size < 1 || size > LARGEST_SIZE) {
                return BAD_ARGUMENT;
            }
            return plan.largestClass(subject) > size ? BAD_STATE : FINE;
        }

        private int faultOfBlocks(int count) {
            if (count < 1 || count > MOST_BLOCKS) {
                return BAD_ARGUMENT;
            }
            for (int subject = 0; subject < plan.subjects; subject++) {
                if (plan.openBlocks(subject) >> count != 0) {
                    return BAD_STATE;
                }
            }
            return FINE;
        }

        private int faultOfOpening(int subject, int block) {
            if (!plan.hasClass(subject, block)) {
                return BAD_INDEX;
            }
            return holds(plan.openBlocks(subject), block) ? BAD_STATE : FINE;
        }

        private int faultOfClosing(int subject, int block) {
            if (!plan.hasClass(subject, block)) {
                return BAD_INDEX;
            }
            boolean closable = holds(plan.openBlocks(subject), block) && plan.roster(subject, block) == 0;
            return closable ? FINE : BAD_STATE;
        }

        private int faultOfWish(int pupil, int subject) {
            int fault = faultOfReserve(pupil, subject);
            if (fault != FINE) {
                return fault;
            }
            return read(plan.wishCounts, pupil) >= MOST_WISHES ? BAD_STATE : FINE;
        }

        private int faultOfReserve(int pupil, int subject) {
            if (!plan.hasPupil(pupil) || !plan.hasSubject(subject)) {
                return BAD_INDEX;
            }
            return holds(plan.wishSet(pupil), subject) || read(plan.reserves, pupil) == subject ? BAD_STATE : FINE;
        }

        int faultOfEnrolling(int pupil) {
            if (!plan.hasPupil(pupil)) {
                return BAD_INDEX;
            }
            return plan.lessonsOf(pupil) > 0 || read(plan.wishCounts, pupil) <= 0 ? BAD_STATE : FINE;
        }

        int faultOfWithdrawing(int pupil) {
            if (!plan.hasPupil(pupil)) {
                return BAD_INDEX;
            }
            return plan.lessonsOf(pupil) == 0 ? BAD_STATE : FINE;
        }

        private int faultOfJoining(int pupil, int subject) {
            int fault = faultOfJoiner(pupil, subject);
            if (fault != FINE) {
                return fault;
            }
            int freeBlocks = plan.freeBlocks(pupil);
            return chains.fewestMoves(subject, freeBlocks) != NONE ? FINE : refusal(subject, freeBlocks);
        }

        private int faultOfQuitting(int pupil, int subject) {
            if (!plan.hasPupil(pupil) || !plan.hasSubject(subject)) {
                return BAD_INDEX;
            }
            return plan.blockTaken(pupil, subject) == NONE ? BAD_STATE : FINE;
        }

        private int faultOfChanging(int pupil, int from, int to) {
            if (!plan.hasPupil(pupil) || !plan.hasSubject(from) || !plan.hasSubject(to)) {
                return BAD_INDEX;
            }
            int quitBlock = plan.blockTaken(pupil, from);
            if (quitBlock == NONE || plan.blockTaken(pupil, to) != NONE) {
                return BAD_STATE;
            }
            // Quitting changes nothing for the chain but that the pupil is also free in this block.
            int freeBlocks = plan.freeBlocks(pupil) | 1 << quitBlock;
            return chains.fewestMoves(to, freeBlocks) != NONE ? FINE : refusal(to, freeBlocks);
        }

        private int refusal(int subject, int freeBlocks) {
            lastRefusal = chains.reasonAgainst(subject, freeBlocks);
            return REFUSED;
        }
    }

    /** The plans before the last modifications. */
    private static final class History {
        private final Plan[] kept;
        private int next;
        private int count;

        History() {
            kept = new Plan[MOST_UNDONE];
            for (int slot = 0; slot < kept.length; slot++) {
                kept[slot] = new Plan();
            }
        }

        void keep(Plan plan) {
            Plan slot = planIn(next);
            if (slot != null) {
                slot.copyFrom(plan);
                next = next + 1 < MOST_UNDONE ? next + 1 : 0;
                count = Math.min(count + 1, MOST_UNDONE);
            }
        }

        void bringBack(Plan plan) {
            int last = next > 0 ? next - 1 : MOST_UNDONE - 1;
            Plan slot = planIn(last);
            if (slot != null) {
                plan.copyFrom(slot);
                next = last;
                count--;
            }
        }

        void forget() {
            count = 0;
        }

        private Plan planIn(int slot) {
            return slot >= 0 && slot < kept.length ? kept[slot] : null;
        }
    }

    /** The buffer, and the commands of the program in it. */
    private static final class Program {
        // A command and the semicolon behind it take six characters or more, so that ten fit; one may go wrong.
        private static final int MOST_READ = 12;
        private static final int MOST_NUMBERS = 3;
        // What stands in the form of a command for a digit, and for a number of one or two digits.
        private static final char DIGIT = '#', NUMBER = '@';

        private final StringBuilder text;
        private final int[] modifications;
        private final int[] numbers;
        private int count;
        private int at;

        Program() {
            text = new StringBuilder();
            modifications = new int[MOST_READ];
            numbers = new int[MOST_READ * MOST_NUMBERS];
        }

        int modification(int command) {
            return read(modifications, command);
        }

        int number(int command, int index) {
            return read(numbers, command * MOST_NUMBERS + index);
        }

        /** Reads the commands in the text; answers the error position, NONE if the text is a program. */
        int parse() {
            at = 0;
            for (count = 0; count < MOST_READ; count++) {
                if (!readCommand(count)) {
                    return at;
                }
                if (at >= text.length()) {
                    count++;
                    return NONE;
                }
                if (!skip(';')) {
                    return at;
                }
            }
            return at;
        }

        private boolean readCommand(int command) {
            int start = at;
            int furthest = at;
            for (int modification = 0; modification < COMMANDS; modification++) {
                at = start;
                if (matches(formOf(modification), command * MOST_NUMBERS)) {
                    write(modifications, command, modification);
                    return true;
                }
                furthest = Math.max(furthest, at);
            }
            at = furthest;
            return false;
        }

        // Where the text leaves the form, the position stands at the character that does not fit.
        private boolean matches(String form, int firstCell) {
            int cell = firstCell;
            for (int index = 0; index < form.length(); index++) {
                char wanted = form.charAt(index);
                boolean numeric = wanted == DIGIT || wanted == NUMBER;
                if (numeric ? !readNumber(cell, wanted == NUMBER) : !skip(wanted)) {
                    return false;
                }
                cell += numeric ? 1 : 0;
            }
            return true;
        }

        private boolean readNumber(int cell, boolean twoDigits) {
            int value = digitHere();
            if (value == NONE) {
                return false;
            }
            at++;
            int second = twoDigits ? digitHere() : NONE;
            if (second != NONE) {
                value = value * 10 + second;
                at++;
            }
            write(numbers, cell, value);
            return true;
        }

        private int digitHere() {
            char here = at >= 0 && at < text.length() ? text.charAt(at) : ' ';
            return here >= '0' && here <= '9' ? here - '0' : NONE;
        }

        private boolean skip(char wanted) {
            boolean stands = at >= 0 && at < text.length() && text.charAt(at) == wanted;
            at += stands ? 1 : 0;
            return stands;
        }

        private static String formOf(int modification) {
            switch (modification) {
                case SUBJECT:
                    return "subject #";
                case BLOCKS:
                    return "blocks #";
                case OPEN:
                    return "open # #";
                case CLOSE:
                    return "close # #";
                case PUPIL:
                    return "pupil";
                case WISH:
                    return "wish @ #";
                case RESERVE:
                    return "reserve @ #";
                case ENROL:
                    return "enrol @";
                case JOIN:
                    return "join @ #";
                case QUIT:
                    return "quit @ #";
                case CHANGE:
                    return "change @ # #";
                default:
                    return "arrange";
            }
        }
    }
}
