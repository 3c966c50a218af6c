import java.util.function.Consumer;
import java.util.function.Supplier;

/** The sentences of the document's section "Terms" that name a boundary case, each with a test of its own. */
public final class TermsTest extends Schools {
    private static final String[] COMMANDS = {"subject 1", "blocks 1", "open 1 2", "close 1 2", "pupil", "wish 1 2",
        "wish 12 3", "reserve 1 2", "reserve 12 3", "enrol 1", "enrol 12", "join 1 2", "join 12 3", "quit 1 2",
        "quit 12 3", "change 1 2 3", "change 12 3 4", "arrange"};

    private TermsTest() {
    }

    public static void main(String[] args) {
        longestUse();
        sevenSubjects();
        sizeOfClasses();
        oneToFourBlocks();
        classesAtFirst();
        room();
        twelvePupils();
        threeWishes();
        ranks();
        oneReserve();
        oneClassInEachBlock();
        attending();
        freeInBlock();
        wishesAndTimetables();
        placementsOfSomeWishes();
        placementsHaveRoom();
        reserveForMissingWish();
        valuesOfWishes();
        greaterValue();
        reserveBeforeBlocks();
        lowerBlocks();
        moves();
        lengthsOfChains();
        furtherMoves();
        roomAtTheEnd();
        chainCarriedOut();
        bestChain();
        bestChainGoesLow();
        bestChainTakesLowestPupil();
        refusals();
        reasons();
        clashes();
        sharedBlocks();
        clashesOfArrangement();
        bestArrangement();
        buffer();
        grammar();
        commandsCallMethods();
        errorPosition();
        emptyText();
        modifications();
        modificationsThatChangeNothing();
        programIsOneModification();
        lastEight();
        notUndone();
        everythingElseIsUndone();
        lastChainIsUndone();
        exceptionsChangeNothing();
        exceptionsAtTheLimitsChangeNothing();
        executeStoresItsFault();
        refusalStoresItsReason();
        firstException();
        constants();
        Check.end("TermsTest");
    }

    private static void longestUse() {
        Check.sentence("An object is used for at most 512 calls after it has been made; "
                + "what later calls answer is free.");
        OptionBlockPlanner x = new OptionBlockPlanner();
        x.addSubject(1);
        for (int call = 2; call <= 510; call++) {
            int count = 1 + call % 4;
            int previous = call == 2 ? 3 : 1 + (call - 1) % 4;
            due(previous, "setBlockCount as call " + call, () -> x.setBlockCount(count));
        }
        due(7, "undo as call 511", x::undo);
        due(2, "blockCount as call 512", x::blockCount);
    }

    // ---- subjects, blocks and classes

    private static void sevenSubjects() {
        Check.sentence("At most 7 subjects exist, numbered from 0 in the order in which they were added; "
                + "they are never removed.");
        OptionBlockPlanner x = new OptionBlockPlanner();
        for (int subject : upTo(7)) {
            due(subject, "addSubject", () -> x.addSubject(9 - subject));
        }
        due(Check.STATE, "an eighth subject", () -> x.addSubject(1));
        x.setBlockCount(1);
        x.arrange();
        due(7, "subjectCount", x::subjectCount);
        for (int subject : upTo(7)) {
            due(9 - subject, "sizeOf(" + subject + ")", () -> x.sizeOf(subject));
        }
    }

    private static void sizeOfClasses() {
        Check.sentence("Each subject has a size from 1 to 9, the greatest number of pupils "
                + "that one class of it can have.");
        for (int size = 1; size <= 9; size++) {
            dueFullAt(size);
        }
        for (int size : new int[] {0, 10}) {
            due(Check.ARGUMENT, "addSubject(" + size + ")", () -> new OptionBlockPlanner().addSubject(size));
            due(Check.ARGUMENT, "setSize(0, " + size + ")", () -> planner(sizes(5), 3, 0).setSize(0, size));
        }
    }

    private static void dueFullAt(int size) {
        String of = " of size " + size;
        OptionBlockPlanner x = planner(sizes(size), 2, 12);
        x.openClass(0, 0);
        for (int pupil : upTo(size)) {
            due(0, "join of pupil " + pupil + " to a class" + of, () -> x.join(pupil, 0));
        }
        due(Check.REFUSED, "join to a full class" + of, () -> x.join(11, 0));
        due(size, "pupilsInClass of a class" + of, () -> x.pupilsInClass(0, 0));
        x.openClass(0, 1);
        due(0, "join to a second class" + of, () -> x.join(11, 0));
        due(1, "its block", () -> x.blockOf(11, 0));
    }

    private static void oneToFourBlocks() {
        Check.sentence("There are 1 to 4 blocks, at first 3, numbered from 0.");
        OptionBlockPlanner x = new OptionBlockPlanner();
        x.addSubject(1);
        due(3, "blockCount at first", x::blockCount);
        dueBlocks(3, x);
        for (int count : new int[] {1, 4, 2, 3}) {
            x.setBlockCount(count);
            dueBlocks(count, x);
        }
        due(Check.ARGUMENT, "setBlockCount(0)", () -> x.setBlockCount(0));
        due(Check.ARGUMENT, "setBlockCount(5)", () -> x.setBlockCount(5));
    }

    private static void dueBlocks(int count, OptionBlockPlanner x) {
        for (int block = -1; block <= 5; block++) {
            int number = block;
            Object want = block >= 0 && block < count ? false : Check.INDEX;
            due(want, "isOpen(0, " + block + ") with " + count + " blocks", () -> x.isOpen(0, number));
        }
    }

    private static void classesAtFirst() {
        Check.sentence("In each block, each subject has one class, which is open or not; "
                + "at first no class is open.");
        OptionBlockPlanner x = planner(sizes(1, 2, 3, 4, 5, 6, 7), 3, 0);
        due("      ", "the open classes", () -> openBlocks(x));
        open(x, 3, 0, 1, 2);
        due("   012   ", "the open classes", () -> openBlocks(x));
        x.setBlockCount(4);
        due("   012   ", "the open classes with another block", () -> openBlocks(x));
        OptionBlockPlanner y = new OptionBlockPlanner();
        y.addSubject(1);
        open(y, 0, 0, 2);
        y.undo();
        y.undo();
        y.undo();
        y.addSubject(1);
        due("", "the open classes of a subject in place of one that was undone", () -> openBlocks(y));
    }

    private static void room() {
        Check.sentence("A class has room if it is open and has fewer pupils than the size of its subject.");
        OptionBlockPlanner x = planner(sizes(2), 1, 3);
        wish(x, 0, 0);
        dueValue(0, x, 0);
        due(Check.REFUSED, "join of a class that is not open", () -> x.join(0, 0));
        x.openClass(0, 0);
        dueValue(4, x, 0);
        x.join(1, 0);
        dueValue(4, x, 0);
        x.join(2, 0);
        dueValue(0, x, 0);
        due(Check.REFUSED, "join of a class with as many pupils", () -> x.join(0, 0));
        x.setSize(0, 3);
        dueValue(4, x, 0);
        due(0, "join of a class with one pupil fewer", () -> x.join(0, 0));
    }

    // ---- pupils

    private static void twelvePupils() {
        Check.sentence("At most 12 pupils exist, numbered from 0 in the order in which they were added; "
                + "they are never removed.");
        OptionBlockPlanner x = planner(sizes(1), 3, 0);
        x.openClass(0, 0);
        for (int pupil : upTo(12)) {
            due(Check.INDEX, "wishCount(" + pupil + ")", () -> x.wishCount(pupil));
            due(pupil, "addPupil", x::addPupil);
            due(0, "wishCount(" + pupil + ")", () -> x.wishCount(pupil));
        }
        due(Check.STATE, "a thirteenth pupil", x::addPupil);
        x.join(11, 0);
        x.withdraw(11);
        due(12, "pupilCount", x::pupilCount);
    }

    private static void threeWishes() {
        Check.sentence("A pupil has at most 3 wishes, which are different subjects.");
        OptionBlockPlanner x = planner(sizes(1, 1, 1, 1, 1), 3, 1);
        due(1, "a first wish", () -> x.addWish(0, 2));
        due(Check.STATE, "the first wish again", () -> x.addWish(0, 2));
        due(2, "a second wish", () -> x.addWish(0, 0));
        due(Check.STATE, "the first wish again", () -> x.addWish(0, 2));
        due(Check.STATE, "the second wish again", () -> x.addWish(0, 0));
        due(3, "a third wish", () -> x.addWish(0, 4));
        due(Check.STATE, "a fourth wish", () -> x.addWish(0, 1));
        due(3, "wishCount(0)", () -> x.wishCount(0));
    }

    private static void ranks() {
        Check.sentence("The first wish that is added has the rank 0, the next one the rank 1, and so on.");
        OptionBlockPlanner x = planner(sizes(1, 1, 1, 1, 1), 3, 2);
        wish(x, 1, 3);
        wish(x, 0, 4, 0, 2);
        wish(x, 1, 0);
        due(4, "wishAt(0, 0)", () -> x.wishAt(0, 0));
        due(0, "wishAt(0, 1)", () -> x.wishAt(0, 1));
        due(2, "wishAt(0, 2)", () -> x.wishAt(0, 2));
        due(3, "wishAt(1, 0)", () -> x.wishAt(1, 0));
        due(0, "wishAt(1, 1)", () -> x.wishAt(1, 1));
    }

    private static void oneReserve() {
        Check.sentence("A pupil has at most one reserve, a subject that is not one of its wishes.");
        OptionBlockPlanner x = planner(sizes(1, 1, 1, 1), 3, 1);
        due(-1, "reserveOf(0) at first", () -> x.reserveOf(0));
        due(-1, "a first reserve", () -> x.setReserve(0, 1));
        due(1, "a second reserve", () -> x.setReserve(0, 3));
        due(3, "reserveOf(0)", () -> x.reserveOf(0));
        due(Check.STATE, "the reserve as a wish", () -> x.addWish(0, 3));
        due(1, "the earlier reserve as a wish", () -> x.addWish(0, 1));
        due(Check.STATE, "a wish as the reserve", () -> x.setReserve(0, 1));
        due(3, "reserveOf(0)", () -> x.reserveOf(0));
    }

    // ---- timetables

    private static void oneClassInEachBlock() {
        Check.sentence("The timetable of a pupil contains at most one class in each block "
                + "and at most one class of each subject; at first it contains none.");
        OptionBlockPlanner x = planner(sizes(9, 9, 9, 9, 9), 4, 1);
        for (int number : upTo(4)) {
            due(-1, "subjectIn(0, " + number + ") at first", () -> x.subjectIn(0, number));
            due(-1, "blockOf(0, " + number + ") at first", () -> x.blockOf(0, number));
        }
        open(x, 0, 0, 1);
        open(x, 1, 0);
        open(x, 2, 2);
        open(x, 3, 3);
        open(x, 4, 0, 1, 2, 3);
        due(0, "join(0, 0)", () -> x.join(0, 0));
        due(Check.STATE, "a second class of a subject", () -> x.join(0, 0));
        due(Check.REFUSED, "a second class in a block", () -> x.join(0, 1));
        due(0, "a second class in another block", () -> x.join(0, 4));
        x.join(0, 2);
        x.join(0, 3);
        dueTimetable("0: 0 4 2 3", x, 0);
        due(Check.REFUSED, "a fifth class", () -> x.join(0, 1));
    }

    private static void attending() {
        Check.sentence("A pupil attends a subject if its timetable contains a class of the subject; "
                + "it is then a pupil of this class.");
        OptionBlockPlanner x = planner(sizes(9), 2, 2);
        open(x, 0, 1);
        due(Check.STATE, "quit of a subject that is not attended", () -> x.quit(1, 0));
        x.join(1, 0);
        due(1, "pupilInClass(0, 1, 0)", () -> x.pupilInClass(0, 1, 0));
        due(Check.STATE, "join of a subject that is attended", () -> x.join(1, 0));
        due(1, "quit of it", () -> x.quit(1, 0));
        due(Check.MISSING, "pupilInClass(0, 1, 0)", () -> x.pupilInClass(0, 1, 0));
        due(0, "join(1, 0) once more", () -> x.join(1, 0));
    }

    private static void freeInBlock() {
        Check.sentence("A pupil is free in a block if its timetable contains no class in this block.");
        OptionBlockPlanner x = planner(sizes(9, 9), 1, 2);
        open(x, 0, 0);
        open(x, 1, 0);
        x.join(0, 0);
        due(Check.REFUSED, "join(0, 1) in the block of another class", () -> x.join(0, 1));
        due(0, "join(1, 1) of a pupil who is free", () -> x.join(1, 1));
        x.quit(0, 0);
        due(-1, "subjectIn(0, 0) after quit", () -> x.subjectIn(0, 0));
        due(0, "join(0, 1) after quit", () -> x.join(0, 1));
    }

    private static void wishesAndTimetables() {
        Check.sentence("Whether a subject is a wish of a pupil does not matter for its timetable, "
                + "except where it is said.");
        OptionBlockPlanner x = planner(sizes(9, 9), 3, 2);
        open(x, 0, 0);
        open(x, 1, 1);
        due(0, "join without wishes", () -> x.join(0, 0));
        due(1, "a subject that is attended as a wish", () -> x.addWish(0, 0));
        dueTimetable("0: 0 - -", x, 0);
        x.withdraw(0);
        due(1, "wishCount(0) after withdraw", () -> x.wishCount(0));
        wish(x, 1, 0);
        due(0, "join of a subject that is no wish", () -> x.join(1, 1));
        dueTimetable("1: - 1 -", x, 1);
        due(0, "change to a wish", () -> x.change(1, 1, 0));
        due(0, "quit of a wish", () -> x.quit(1, 0));
        due(0, "wishAt(1, 0) after quit", () -> x.wishAt(1, 0));
    }

    // ---- placements

    private static void placementsOfSomeWishes() {
        Check.sentence("A placement of a pupil assigns blocks to some of its wishes, or to none, "
                + "and possibly one to its reserve.");
        OptionBlockPlanner x = planner(sizes(9, 9, 9), 3, 1);
        wish(x, 0, 0, 1);
        x.setReserve(0, 2);
        dueEnrolled(0, "0: - - -", x);
        x.openClass(2, 1);
        dueEnrolled(0, "0: - 2! -", x);
        x.openClass(1, 0);
        dueEnrolled(2, "0: 1 2! -", x);
        x.closeClass(2, 1);
        dueEnrolled(2, "0: 1 - -", x);
        x.openClass(0, 2);
        dueEnrolled(6, "0: 1 - 0", x);
    }

    /** Enrols pupil 0, and takes it out again. */
    private static void dueEnrolled(int value, String timetable, OptionBlockPlanner x) {
        dueValue(value, x, 0);
        due(value, "enrol(0)", () -> x.enrol(0));
        dueTimetable(timetable, x, 0);
        x.undo();
    }

    private static void placementsHaveRoom() {
        Check.sentence("The assigned blocks are different, and in each of them the class of the subject has room; "
                + "the pupil itself is not counted as a pupil of any class for this.");
        OptionBlockPlanner x = planner(sizes(1, 1), 2, 3);
        wish(x, 0, 0, 1);
        wish(x, 1, 0);
        open(x, 0, 0);
        open(x, 1, 0);
        dueEnrolled(4, "0: 0 -", x);
        x.openClass(1, 1);
        dueEnrolled(6, "0: 0 1", x);
        x.join(0, 0);
        dueValue(6, x, 0);
        dueValue(0, x, 1);
        x.join(0, 1);
        dueValue(6, x, 0);
        x.withdraw(0);
        x.join(1, 0);
        dueValue(2, x, 0);
        dueValue(4, x, 1);
        for (int other : new int[] {0, 2}) {
            OptionBlockPlanner y = planner(sizes(1, 1), 2, 3);
            open(y, 0, 0);
            y.join(other, 0);
            y.addWish(1, 1);
            y.setReserve(1, 0);
            due(0, "enrol(1) with its reserve full", () -> y.enrol(1));
            dueTimetable("1: - -", y, 1);
        }
    }

    private static void reserveForMissingWish() {
        Check.sentence("The reserve can be part of a placement only if at least one wish of the pupil is not.");
        OptionBlockPlanner x = planner(sizes(9, 9, 9, 9), 4, 2);
        for (int subject : upTo(4)) {
            x.openClass(subject, subject);
        }
        x.setReserve(0, 3);
        x.setReserve(1, 3);
        due(0, "enrolAll of pupils without wishes", x::enrolAll);
        dueTimetable("0: - - - -", x, 0);
        wish(x, 0, 0);
        dueEnrolled(4, "0: 0 - - -", x);
        wish(x, 0, 1);
        dueEnrolled(6, "0: 0 1 - -", x);
        wish(x, 0, 2);
        dueEnrolled(7, "0: 0 1 2 -", x);
        x.closeClass(2, 2);
        dueEnrolled(6, "0: 0 1 - 3!", x);
        x.closeClass(0, 0);
        dueEnrolled(2, "0: - 1 - 3!", x);
        x.closeClass(1, 1);
        dueEnrolled(0, "0: - - - 3!", x);
    }

    private static void valuesOfWishes() {
        Check.sentence("The values of the wishes of the ranks 0, 1 and 2 are 4, 2 and 1, "
                + "and the value of a placement is the sum of the values of the wishes in it.");
        int[] wishes = {2, 0, 1};
        for (int value : upTo(8)) {
            OptionBlockPlanner x = planner(sizes(1, 1, 1), 3, 1);
            wish(x, 0, wishes);
            for (int rank : upTo(3)) {
                if ((value >> (2 - rank) & 1) == 1) {
                    x.openClass(wishes[rank], rank);
                }
            }
            dueValue(value, x, 0);
            due(value, "enrol(0)", () -> x.enrol(0));
        }
    }

    private static void greaterValue() {
        Check.sentence("Of two placements, the one with the greater value is better.");
        OptionBlockPlanner x = planner(sizes(1, 1, 1, 1), 1, 1);
        for (int subject : upTo(4)) {
            x.openClass(subject, 0);
        }
        wish(x, 0, 2, 1, 0);
        x.setReserve(0, 3);
        dueEnrolled(4, "0: 2", x);
        x.closeClass(2, 0);
        dueEnrolled(2, "0: 1", x);
        x.closeClass(1, 0);
        dueEnrolled(1, "0: 0", x);
        x.closeClass(0, 0);
        dueEnrolled(0, "0: 3!", x);
    }

    private static void reserveBeforeBlocks() {
        Check.sentence("If both have the same value, and thus contain the same wishes, "
                + "one that contains the reserve is better than one that does not.");
        OptionBlockPlanner x = planner(sizes(1, 1, 1), 3, 1);
        open(x, 0, 0, 2);
        wish(x, 0, 0, 1);
        x.setReserve(0, 2);
        dueEnrolled(4, "0: 0 - -", x);
        x.openClass(2, 0);
        dueEnrolled(4, "0: 2! - 0", x);
        x.closeClass(0, 2);
        dueEnrolled(4, "0: 0 - -", x);
    }

    private static void lowerBlocks() {
        Check.sentence("If they are still equal, they are compared at the wish with the lowest rank to which they "
                + "assign different blocks, or at the reserve if there is no such wish, "
                + "and the one with the lower block there is better.");
        OptionBlockPlanner x = planner(sizes(1, 1, 1, 1), 4, 1);
        wish(x, 0, 2, 1, 0);
        x.setReserve(0, 3);
        open(x, 2, 0, 1, 3);
        dueEnrolled(4, "0: 2 - - -", x);
        open(x, 1, 0, 2, 3);
        dueEnrolled(6, "0: 2 - 1 -", x);
        open(x, 3, 0, 1, 2, 3);
        dueEnrolled(6, "0: 2 3! 1 -", x);
        open(x, 0, 1, 2, 3);
        dueEnrolled(7, "0: 2 0 1 -", x);
        x.closeClass(0, 1);
        dueEnrolled(7, "0: 2 - 1 0", x);
        x.closeClass(0, 3);
        // The lowest rank keeps the lowest block, even if the next one then has to take the highest.
        dueEnrolled(7, "0: 2 - 0 1", x);
    }

    // ---- chains

    private static void moves() {
        Check.sentence("A move takes a pupil from its class of a subject in one block to the class of the same "
                + "subject in another block; this class has to be open, and the pupil has to be free in that block.");
        OptionBlockPlanner x = planner(sizes(1, 9), 2, 2);
        open(x, 0, 0);
        open(x, 1, 1);
        x.join(0, 0);
        x.join(1, 1);
        dueMoves(Check.MISSING, x, 1, 0);
        x.openClass(0, 1);
        dueMoves(1, x, 1, 0);
        x.join(0, 1);
        dueMoves(Check.MISSING, x, 1, 0);
        due(Check.REFUSED, "join(1, 0)", () -> x.join(1, 0));
        x.quit(0, 1);
        due(1, "join(1, 0)", () -> x.join(1, 0));
        dueTimetable("0: - 0", x, 0);
        dueTimetable("1: 0 1", x, 1);
        // The other way round, into block 0.
        OptionBlockPlanner y = planner(sizes(1, 9), 2, 2);
        open(y, 0, 1);
        open(y, 1, 0);
        y.join(0, 0);
        y.join(1, 1);
        open(y, 0, 0);
        dueMoves(1, y, 1, 0);
        due(1, "join(1, 0)", () -> y.join(1, 0));
        dueTimetable("0: 0 -", y, 0);
        dueTimetable("1: 1 0", y, 1);
    }

    private static void lengthsOfChains() {
        Check.sentence("A chain for a pupil and a subject that it does not attend consists of an entry, which is a "
                + "block in which the pupil is free and the class of the subject is open, "
                + "and of zero or more moves of other pupils of the subject.");
        for (int moves : upTo(4)) {
            OptionBlockPlanner x = chainOf(moves);
            dueMoves(moves, x, moves, 0);
            due(moves, "join", () -> x.join(moves, 0));
            dueMoves(Check.STATE, x, moves, 0);
        }
        OptionBlockPlanner y = planner(sizes(9, 9), 2, 1);
        open(y, 1, 0);
        y.join(0, 1);
        open(y, 0, 0);
        dueMoves(Check.MISSING, y, 0, 0);
        open(y, 0, 1);
        dueMoves(0, y, 0, 0);
        y.closeClass(0, 1);
        dueMoves(Check.MISSING, y, 0, 0);
        y.quit(0, 1);
        dueMoves(0, y, 0, 0);
    }

    private static void furtherMoves() {
        Check.sentence("The first move takes a pupil from the class in the entry, and each further move takes a "
                + "pupil from the class into which the move before went, "
                + "where that pupil was already before the chain.");
        OptionBlockPlanner x = chainOf(3);
        x.join(3, 0);
        for (int move : upTo(3)) {
            due(move, "chainPupil(" + move + ")", () -> x.chainPupil(move));
            due(move + 1, "chainBlock(" + move + ")", () -> x.chainBlock(move));
        }
    }

    private static void roomAtTheEnd() {
        Check.sentence("The class into which the last move went, or the class in the entry if there are no moves, "
                + "has room before the chain.");
        // Both could change places, but there is no room for that.
        OptionBlockPlanner x = planner(sizes(1, 1), 2, 3);
        open(x, 0, 0, 1);
        x.join(0, 0);
        x.join(1, 0);
        dueMoves(Check.MISSING, x, 2, 0);
        x.setSize(0, 2);
        dueMoves(0, x, 2, 0);
        OptionBlockPlanner y = chainOf(2);
        y.setSize(3, 9);
        y.quit(0, 3);
        y.addPupil();
        y.join(3, 0);
        dueTimetable("3: - - 0", y, 3);
        dueMoves(Check.MISSING, y, 2, 0);
        y.quit(3, 0);
        dueMoves(1, y, 2, 0);
    }

    private static void chainCarriedOut() {
        Check.sentence("When a chain is carried out, its moves are made, "
                + "and the pupil gets the class in the entry.");
        OptionBlockPlanner x = chainOf(3);
        x.join(3, 0);
        dueTimetable("0: - 0 3 4", x, 0);
        dueTimetable("1: 1 - 0 4", x, 1);
        dueTimetable("2: 1 2 - 0", x, 2);
        dueTimetable("3: 0 2 3 4", x, 3);
        OptionBlockPlanner y = chainOf(0);
        y.join(0, 0);
        dueTimetable("0: 0", y, 0);
    }

    private static final String BEST_CHAIN = "The best chain is one with the fewest moves; of several, the one with "
            + "the lowest entry, then with the lowest block into which the first move goes, then with the lowest "
            + "block into which the second move goes, and so on; "
            + "each move takes the pupil with the lowest number that it can take.";

    private static void dueChain(int block, int[][] moves, OptionBlockPlanner x, int pupil) {
        due(moves.length, "join(" + pupil + ", 0)", () -> x.join(pupil, 0));
        due(block, "the entry", () -> x.blockOf(pupil, 0));
        for (int move : upTo(moves.length)) {
            due(moves[move][0], "chainPupil(" + move + ")", () -> x.chainPupil(move));
            due(moves[move][1], "chainBlock(" + move + ")", () -> x.chainBlock(move));
        }
    }

    private static void bestChain() {
        Check.sentence(BEST_CHAIN);
        OptionBlockPlanner a = planner(sizes(1), 4, 2);
        open(a, 0, 0, 2, 3);
        a.join(0, 0);
        // No move and block 2, before one move and block 0.
        dueChain(2, new int[][] {}, a, 1);
        // One move and block 1, before two moves and block 0.
        OptionBlockPlanner b = planner(sizes(1, 9, 9), 3, 3);
        open(b, 0, 0);
        b.join(0, 0);
        open(b, 0, 1);
        b.join(1, 0);
        open(b, 1, 2);
        b.join(0, 1);
        b.join(2, 1);
        open(b, 0, 2);
        dueChain(1, new int[][] {{1, 2}}, b, 2);
        // Block 0 and a move into block 3, before block 1 and a move into block 2.
        OptionBlockPlanner c = planner(sizes(1, 9, 9), 4, 3);
        open(c, 0, 0);
        c.join(0, 0);
        open(c, 0, 1);
        c.join(1, 0);
        open(c, 1, 2);
        open(c, 2, 3);
        c.join(0, 1);
        c.join(2, 1);
        c.join(2, 2);
        open(c, 0, 2, 3);
        dueChain(0, new int[][] {{0, 3}}, c, 2);
    }

    /** Pupils 0 to 2 in the classes of subject 0 in the blocks 0 to 2, pupil 3 free in block 0 alone. */
    private static OptionBlockPlanner threeClasses() {
        OptionBlockPlanner x = planner(sizes(1, 9, 9, 9), 4, 4);
        for (int number : upTo(3)) {
            x.openClass(0, number);
            x.join(number, 0);
            x.openClass(1 + number, 1 + number);
            x.join(3, 1 + number);
        }
        return x;
    }

    private static void bestChainGoesLow() {
        Check.sentence(BEST_CHAIN);
        // Blocks 1, 2 and 3 have room for pupil 0.
        OptionBlockPlanner a = threeClasses();
        a.withdraw(1);
        a.withdraw(2);
        a.openClass(0, 3);
        dueChain(0, new int[][] {{0, 1}}, a, 3);
        // By block 1 and by block 2, the way leads to block 3.
        OptionBlockPlanner b = threeClasses();
        b.openClass(0, 3);
        b.join(0, 3);
        dueChain(0, new int[][] {{0, 1}, {1, 3}}, b, 3);
        // Behind block 1, blocks 2 and 3 have room.
        OptionBlockPlanner c = threeClasses();
        c.withdraw(2);
        c.openClass(0, 3);
        c.join(0, 2);
        c.join(0, 3);
        dueChain(0, new int[][] {{0, 1}, {1, 2}}, c, 3);
        // Pupil 1 has to go by block 2.
        OptionBlockPlanner d = threeClasses();
        d.openClass(0, 3);
        d.join(0, 3);
        d.join(1, 3);
        dueChain(0, new int[][] {{0, 2}, {2, 3}}, d, 3);
    }

    private static void bestChainTakesLowestPupil() {
        Check.sentence(BEST_CHAIN);
        OptionBlockPlanner x = planner(sizes(3, 9, 9), 4, 4);
        open(x, 0, 0);
        for (int pupil : new int[] {2, 1, 0}) {
            x.join(pupil, 0);
        }
        open(x, 1, 2);
        open(x, 2, 3);
        x.join(3, 1);
        x.join(3, 2);
        open(x, 0, 2, 3);
        x.save();
        dueChain(0, new int[][] {{0, 2}}, x, 3);
        x.restore();
        x.join(0, 1);
        dueChain(0, new int[][] {{1, 2}}, x, 3);
        x.restore();
        x.join(0, 1);
        x.join(1, 1);
        // The lower block comes before the lower pupil.
        dueChain(0, new int[][] {{2, 2}}, x, 3);
        x.restore();
        x.join(0, 1);
        x.join(1, 1);
        x.join(2, 1);
        dueChain(0, new int[][] {{0, 3}}, x, 3);
    }

    // ---- refusals

    private static void refusals() {
        Check.sentence("If there is no chain, a join or a change is refused.");
        OptionBlockPlanner x = chainOf(1);
        due(0, "quit(0, 0)", () -> x.quit(0, 0));
        x.closeClass(0, 0);
        due(Check.REFUSED, "join without a chain", () -> x.join(1, 0));
        due(Check.REFUSED, "join of a subject that is not open", () -> x.join(0, 4));
        x.openClass(4, 0);
        x.join(0, 4);
        x.closeClass(0, 1);
        due(Check.REFUSED, "change without a chain", () -> x.change(0, 4, 0));
        due(0, "blockOf(0, 4) after the refusal", () -> x.blockOf(0, 4));
        x.openClass(0, 0);
        due(0, "change with a chain", () -> x.change(0, 4, 0));
    }

    private static void dueReason(int reason, String name, OptionBlockPlanner x, Consumer<OptionBlockPlanner> call) {
        due(Check.REFUSED, name, () -> {
            call.accept(x);
            return "nothing thrown";
        });
        due(reason, "the reason of " + name, x::refusalReason);
    }

    private static void reasons() {
        Check.sentence("The reason is NOT_OPEN if no class of the subject is open, otherwise NOT_FREE if the pupil "
                + "is free in none of the blocks in which a class of the subject is open, and otherwise FULL.");
        OptionBlockPlanner x = planner(sizes(1, 9, 9), 2, 4);
        dueReason(1, "join of a free pupil, nothing open", x, y -> y.join(0, 0));
        open(x, 1, 0);
        open(x, 2, 1);
        x.join(0, 1);
        x.join(0, 2);
        dueReason(1, "join of a busy pupil, nothing open", x, y -> y.join(0, 0));
        dueReason(1, "change, nothing open", x, y -> y.change(0, 1, 0));
        x.openClass(0, 0);
        dueReason(2, "join of a busy pupil, with room", x, y -> y.join(0, 0));
        dueReason(2, "change of the block that does not help", x, y -> y.change(0, 2, 0));
        x.join(1, 0);
        dueReason(2, "join of a busy pupil, without room", x, y -> y.join(0, 0));
        dueReason(3, "change to a full class", x, y -> y.change(0, 1, 0));
        dueReason(3, "join of a free pupil, without room", x, y -> y.join(2, 0));
        x.openClass(0, 1);
        dueReason(2, "join of a pupil who is busy in both blocks", x, y -> y.join(0, 0));
        x.join(2, 0);
        x.join(3, 1);
        dueReason(3, "join of a pupil who is free in one of two blocks", x, y -> y.join(3, 0));
    }

    // ---- clashes

    private static void dueClash(boolean want, String open, OptionBlockPlanner x) {
        due(want, "doClash(0, 1) with open " + open, () -> x.doClash(0, 1));
        due(want, "doClash(1, 0) with open " + open, () -> x.doClash(1, 0));
    }

    private static void clashes() {
        Check.sentence("Two different subjects clash if there are no two different blocks such that a class of the "
                + "one subject is open in the one block and a class of the other subject is open in the other block.");
        for (int blocks = 1; blocks <= 4; blocks++) {
            for (int set = 0; set < 1 << blocks; set++) {
                for (int other = 0; other < 1 << blocks; other++) {
                    OptionBlockPlanner x = planner(sizes(1, 1), blocks, 0);
                    openSet(x, 0, set);
                    openSet(x, 1, other);
                    boolean same = set == other && Integer.bitCount(set) == 1;
                    dueClash(set == 0 || other == 0 || same, set + " and " + other, x);
                }
            }
        }
    }

    private static void openSet(OptionBlockPlanner x, int subject, int set) {
        for (int block : upTo(4)) {
            if ((set >> block & 1) == 1) {
                x.openClass(subject, block);
            }
        }
    }

    private static void sharedBlocks() {
        Check.sentence("An arrangement assigns one block to each subject; several subjects can have the same block.");
        OptionBlockPlanner x = planner(sizes(1, 1, 1, 1, 1, 1, 1), 1, 1);
        wish(x, 0, 2, 6, 4);
        due(3, "arrange", x::arrange);
        due("0 0 0 0 0 0 0", "the arrangement in one block", () -> openBlocks(x));
        x.setBlockCount(2);
        due(1, "arrange", x::arrange);
        due("0 0 0 0 0 0 1", "the arrangement in two blocks", () -> openBlocks(x));
        x.setBlockCount(4);
        due(0, "arrange", x::arrange);
        due("0 0 0 0 1 0 2", "the arrangement in four blocks", () -> openBlocks(x));
    }

    private static void clashesOfArrangement() {
        Check.sentence("The number of clashes of an arrangement is the sum, over all pairs of different subjects to "
                + "which it assigns the same block, of the number of pupils who have both among their wishes.");
        OptionBlockPlanner x = planner(sizes(1, 1, 1, 1), 1, 12);
        dueLeast(0, x);
        wish(x, 0, 0, 1, 2);
        dueLeast(3, x);
        wish(x, 1, 1, 0);
        dueLeast(4, x);
        wish(x, 2, 3);
        x.setReserve(2, 0);
        dueLeast(4, x);
        for (int pupil = 3; pupil < 12; pupil++) {
            wish(x, pupil, 3, 2, 1);
        }
        dueLeast(31, x);
        x.setBlockCount(2);
        // Pairs: 2 of 0 and 1, 1 of 0 and 2, 10 of 1 and 2, 9 of 1 and 3, 9 of 2 and 3.
        dueLeast(10, x);
        x.setBlockCount(3);
        dueLeast(0, x);
    }

    private static void bestArrangement() {
        Check.sentence("The best arrangement is the one with the fewest clashes; of several, the one that assigns "
                + "the lower block to the subject with the lowest number to which they assign different blocks.");
        OptionBlockPlanner x = planner(sizes(1, 1, 1, 1), 2, 3);
        dueArranged(0, "0 0 0 0", x);
        wish(x, 0, 3, 1);
        dueArranged(0, "0 0 0 1", x);
        wish(x, 1, 1, 0);
        dueArranged(0, "0 1 0 0", x);
        wish(x, 2, 3, 0);
        dueArranged(1, "0 0 0 1", x);
        wish(x, 0, 0);
        // Pairs: 2 of 0 and 1, 2 of 0 and 3, 1 of 1 and 3.
        dueArranged(1, "0 1 0 1", x);
        x.setBlockCount(4);
        dueArranged(0, "0 1 0 2", x);
    }

    private static void dueArranged(int clashes, String blocks, OptionBlockPlanner x) {
        dueLeast(clashes, x);
        due(clashes, "arrange", x::arrange);
        due(blocks, "the arrangement", () -> openBlocks(x));
        x.undo();
    }

    // ---- programs

    private static void buffer() {
        Check.sentence("Characters are collected in a buffer of at most 60 characters.");
        String full = "blocks 4;subject 2;pupil;pupil;pupil;pupil;pupil;pupil;pupil";
        OptionBlockPlanner x = new OptionBlockPlanner();
        for (int index : upTo(60)) {
            due(index + 1, "type", () -> x.type(full.charAt(index)));
        }
        due(Check.STATE, "type of a character too many", () -> x.type(';'));
        due(9, "execute", x::execute);
        due(7, "pupilCount", x::pupilCount);
        due(1, "type into the empty buffer", () -> x.type('a'));
    }

    /** The program and the model read the text in the same way. */
    private static void dueRead(String text) {
        Model model = new Model();
        OptionBlockPlanner x = new OptionBlockPlanner();
        for (char character : text.toCharArray()) {
            model.type(character);
            x.type(character);
        }
        String want = Check.answerOf(model::execute);
        due(want, "execute of '" + text + "'", x::execute);
        due(Check.answerOf(model::errorPosition), "errorPosition of '" + text + "'", x::errorPosition);
    }

    private static void grammar() {
        Check.sentence("The grammar of a program is, with terminals in quotes and with braces "
                + "for zero or more repetitions:");
        for (String command : COMMANDS) {
            for (int length = 0; length <= command.length(); length++) {
                String start = command.substring(0, length);
                dueRead(start);
                for (char character = ' '; character <= '~'; character++) {
                    dueRead(start + character);
                }
                dueRead("pupil;" + start + ";");
                dueRead(start + ";pupil");
                dueRead(start + " ;pupil");
            }
        }
        OptionBlockPlanner x = new OptionBlockPlanner();
        due(1, "a program of one command", () -> run(x, "pupil"));
        due(2, "a program of two commands", () -> run(x, "pupil;pupil"));
        due(Check.ARGUMENT, "a semicolon at the end", () -> run(x, "pupil;"));
        due(Check.ARGUMENT, "a semicolon at the start", () -> run(x, ";pupil"));
        due(Check.ARGUMENT, "two semicolons", () -> run(x, "pupil;;pupil"));
        due(Check.ARGUMENT, "two digits for one", () -> run(x, "subject 01"));
        due(Check.ARGUMENT, "three digits for a number", () -> run(x, "enrol 001"));
        due(Check.ARGUMENT, "no digit for a number", () -> run(x, "enrol "));
        due(3, "pupilCount", x::pupilCount);
        due(3, "one and two digits for a number", () -> run(x, "subject 9;reserve 2 0;wish 01 0"));
        due(0, "reserveOf(2)", () -> x.reserveOf(2));
        due(1, "wishCount(1)", () -> x.wishCount(1));
    }

    /** The program leaves the same as the call. */
    private static void dueSame(String text, Consumer<OptionBlockPlanner> call) {
        OptionBlockPlanner x = commanded();
        OptionBlockPlanner y = commanded();
        call.accept(y);
        due(1, "execute of '" + text + "'", () -> run(x, text));
        due(stateOf(y), "the state after '" + text + "'", () -> stateOf(x));
        due(false, "whether '" + text + "' leaves all as it was", () -> stateOf(x).equals(stateOf(commanded())));
    }

    /** A school in which the numbers of each command mean something in another order too. */
    private static OptionBlockPlanner commanded() {
        OptionBlockPlanner x = planner(sizes(2, 2, 2), 3, 3);
        open(x, 0, 0, 2);
        open(x, 1, 1);
        x.join(0, 1);
        x.join(2, 0);
        wish(x, 1, 1);
        return x;
    }

    private static void commandsCallMethods() {
        Check.sentence("The commands call addSubject, setBlockCount, openClass, closeClass, addPupil, addWish, "
                + "setReserve, enrol, join, quit, change and arrange with the numbers as arguments, in this order.");
        dueSame("subject 3", x -> x.addSubject(3));
        dueSame("blocks 4", x -> x.setBlockCount(4));
        dueSame("open 1 2", x -> x.openClass(1, 2));
        dueSame("close 0 2", x -> x.closeClass(0, 2));
        dueSame("pupil", x -> x.addPupil());
        dueSame("wish 2 1", x -> x.addWish(2, 1));
        dueSame("wish 02 0", x -> x.addWish(2, 0));
        dueSame("reserve 0 2", x -> x.setReserve(0, 2));
        dueSame("enrol 1", x -> x.enrol(1));
        dueSame("join 1 0", x -> x.join(1, 0));
        dueSame("join 00 0", x -> x.join(0, 0));
        dueSame("quit 2 0", x -> x.quit(2, 0));
        dueSame("change 2 0 1", x -> x.change(2, 0, 1));
        dueSame("change 0 1 0", x -> x.change(0, 1, 0));
        OptionBlockPlanner y = planner(sizes(1, 1), 2, 12);
        wish(y, 11, 0, 1);
        due(1, "execute of 'arrange'", () -> run(y, "arrange"));
        due("0 1", "the arrangement", () -> openBlocks(y));
        due(1, "execute of 'enrol 11'", () -> run(y, "enrol 11"));
        dueTimetable("11: 0 1", y, 11);
        OptionBlockPlanner z = commanded();
        due(4, "execute of four commands", () -> run(z, "change 2 0 1;change 0 1 0;wish 1 2;quit 2 1"));
        dueTimetable("0: 0 - -", z, 0);
        dueTimetable("2: - - -", z, 2);
        due(2, "wishAt(1, 1)", () -> z.wishAt(1, 1));
    }

    private static void dueMalformed(int position, String text) {
        OptionBlockPlanner x = new OptionBlockPlanner();
        due(Check.ARGUMENT, "execute of '" + text + "'", () -> run(x, text));
        due(position, "errorPosition of '" + text + "'", x::errorPosition);
    }

    private static void errorPosition() {
        Check.sentence("The error position of a malformed program is the index of the first character that cannot "
                + "continue any program, or the length of the text if it ends too early;");
        for (String command : COMMANDS) {
            for (int length = 0; length <= command.length(); length++) {
                String start = command.substring(0, length);
                dueMalformed(length, start + "~");
                dueMalformed(length, start + "~" + command);
                dueMalformed(length + 6, "pupil;" + start + "~;pupil");
            }
            dueMalformed(command.length() + 1, command + ";");
            dueMalformed(command.length() + 1, command + "; ");
        }
        for (String command : new String[] {"subject 1", "blocks 1", "open 1 2", "close 1 2", "wish 12 3",
            "reserve 12 3", "change 12 3 4", "quit 12 3", "join 12 3", "pupil", "arrange", "enrol "}) {
            for (int length = 0; length < command.length(); length++) {
                dueMalformed(length, command.substring(0, length));
            }
            dueMalformed(command.length(), command + "~");
        }
        // The first wrong character counts, not what a later one is worth.
        dueMalformed(6, "enrol x;pupil;y");
        dueMalformed(59, "pupil;pupil;pupil;pupil;pupil;pupil;pupil;pupil;pupil;pupil~");
        dueMalformed(60, "pupil;pupil;pupil;pupil;pupil;pupil;pupil;pupil;pupil;pupil;");
    }

    private static void emptyText() {
        Check.sentence("the empty text ends too early.");
        dueMalformed(0, "");
    }

    // ---- undo

    /** The call is a modification: from nothing that can be undone on, it can, and all is as before. */
    private static void dueModification(String name, Supplier<OptionBlockPlanner> begin,
            Consumer<OptionBlockPlanner> call) {
        OptionBlockPlanner x = begin.get();
        x.save();
        x.restore();
        String before = stateOf(x);
        due(Check.STATE, "undo before " + name, x::undo);
        call.accept(x);
        due(0, "undo after " + name, x::undo);
        due(before, "the state after undo of " + name, () -> stateOf(x));
        due(Check.STATE, "another undo after " + name, x::undo);
    }

    private static void modifications() {
        Check.sentence("The successful calls of addSubject, setSize, setBlockCount, openClass, closeClass, addPupil, "
                + "addWish, setReserve, enrol, enrolAll, withdraw, join, quit, change, arrange and execute "
                + "are modifications");
        Supplier<OptionBlockPlanner> begin = TermsTest::commanded;
        dueModification("addSubject", begin, x -> x.addSubject(1));
        dueModification("setSize", begin, x -> x.setSize(0, 9));
        dueModification("setBlockCount", begin, x -> x.setBlockCount(4));
        dueModification("openClass", begin, x -> x.openClass(2, 0));
        dueModification("closeClass", begin, x -> x.closeClass(0, 2));
        dueModification("addPupil", begin, x -> x.addPupil());
        dueModification("addWish", begin, x -> x.addWish(0, 0));
        dueModification("setReserve", begin, x -> x.setReserve(1, 2));
        dueModification("enrol", begin, x -> x.enrol(1));
        dueModification("enrolAll", begin, x -> x.enrolAll());
        dueModification("withdraw", begin, x -> x.withdraw(0));
        dueModification("join", begin, x -> x.join(1, 0));
        dueModification("quit", begin, x -> x.quit(2, 0));
        dueModification("change", begin, x -> x.change(2, 0, 1));
        dueModification("arrange", () -> planner(sizes(1, 1), 2, 1), x -> x.arrange());
        dueModification("execute", begin, x -> run(x, "pupil"));
    }

    private static void modificationsThatChangeNothing() {
        Check.sentence("even if they change nothing.");
        Supplier<OptionBlockPlanner> begin = TermsTest::commanded;
        dueModification("setSize to the same size", begin, x -> x.setSize(0, 2));
        dueModification("setBlockCount to the same number", begin, x -> x.setBlockCount(3));
        dueModification("enrol without a place", () -> {
            OptionBlockPlanner x = planner(sizes(1), 3, 1);
            wish(x, 0, 0);
            return x;
        }, x -> x.enrol(0));
        dueModification("enrolAll of nobody", OptionBlockPlanner::new, x -> x.enrolAll());
        dueModification("arrange once more", () -> {
            OptionBlockPlanner x = planner(sizes(1, 1), 2, 1);
            x.arrange();
            return x;
        }, x -> x.arrange());
        dueModification("arrange without subjects", OptionBlockPlanner::new, x -> x.arrange());
        dueModification("execute that changes nothing", begin, x -> run(x, "blocks 3"));
    }

    private static void programIsOneModification() {
        Check.sentence("A successful call of execute is one modification; "
                + "the calls that its commands make are not counted.");
        OptionBlockPlanner x = new OptionBlockPlanner();
        x.addSubject(1);
        run(x, "pupil;pupil;pupil;pupil;pupil;pupil;pupil;pupil;pupil;pupil");
        due(1, "undo of a program of ten commands", x::undo);
        due(0, "pupilCount", x::pupilCount);
        due(0, "undo of the call before", x::undo);
        due(0, "subjectCount", x::subjectCount);
        run(x, "pupil;pupil;enrol 0");
        run(x, "pupil;");
        due(Check.STATE, "undo after programs that failed", x::undo);
    }

    private static void lastEight() {
        Check.sentence("The last 8 modifications can be undone.");
        OptionBlockPlanner x = new OptionBlockPlanner();
        dueUndonePupils(x, 9, 8);
        due(1, "pupilCount", x::pupilCount);
        dueUndonePupils(x, 8, 8);
        dueUndonePupils(x, 7, 7);
        due(1, "pupilCount", x::pupilCount);
        for (int pupil = 0; pupil < 5; pupil++) {
            x.addPupil();
        }
        due(4, "undo", x::undo);
        due(3, "undo", x::undo);
        dueUndonePupils(x, 7, 8);
        due(3, "pupilCount", x::pupilCount);
        for (int size = 1; size <= 40; size++) {
            x.setBlockCount(1 + size % 4);
        }
        dueUndonePupils(x, 1, 8);
        due(2, "blockCount after 33 of 40", x::blockCount);
    }

    private static void dueUndonePupils(OptionBlockPlanner x, int added, int undone) {
        for (int pupil = 0; pupil < added; pupil++) {
            x.addPupil();
        }
        for (int left = undone - 1; left >= 0; left--) {
            due(left, "undo", x::undo);
        }
        due(Check.STATE, "undo when nothing is left", x::undo);
    }

    /** A school with a line, a buffer, an error position, a failed command, a refusal and a snapshot. */
    private static OptionBlockPlanner noted() {
        OptionBlockPlanner x = planner(sizes(1, 3, 1), 2, 4);
        open(x, 0, 0);
        open(x, 1, 1);
        x.join(0, 0);
        x.join(1, 1);
        x.join(2, 1);
        open(x, 0, 1);
        wish(x, 0, 0);
        x.join(1, 0);
        run(x, "pupil;pupils");
        run(x, "pupil;enrol 9");
        Check.answerOf(() -> x.join(0, 2));
        x.save();
        x.restore();
        x.setSize(1, 9);
        x.setReserve(1, 2);
        x.writeTimetable(1);
        type(x, "pupi");
        return x;
    }

    private static void notUndone() {
        Check.sentence("The buffer, the line, the error position, the failed command, the kind of the failure, "
                + "the reason of the last refusal and the snapshot itself are not affected by undo and restore;");
        for (int way : upTo(2)) {
            Consumer<OptionBlockPlanner> back = way == 0 ? x -> x.undo() : x -> x.restore();
            String by = way == 0 ? " after undo" : " after restore";
            OptionBlockPlanner x = noted();
            back.accept(x);
            due("1: 0 1|1|11|1|1", "line, reason, error position, failed command and kind" + by, () -> notesOf(x));
            due(5, "type" + by, () -> x.type('l'));
            due(1, "execute" + by, x::execute);
            due(5, "pupilCount" + by, x::pupilCount);
            back.accept(x);
            due(4, "pupilCount" + by, x::pupilCount);
            due(Check.ARGUMENT, "execute of the emptied buffer" + by, x::execute);
            OptionBlockPlanner y = noted();
            back.accept(y);
            due(4, "restore of the snapshot" + by, y::restore);
            due(3, "sizeOf(1)" + by, () -> y.sizeOf(1));
            due(-1, "reserveOf(1)" + by, () -> y.reserveOf(1));
        }
    }

    private static void everythingElseIsUndone() {
        Check.sentence("everything else is,");
        OptionBlockPlanner x = commanded();
        x.setReserve(2, 2);
        String before = stateOf(x);
        x.save();
        String all = "subject 4;blocks 4;pupil;open 2 3;reserve 2 1;wish 1 0";
        due(6, "a program", () -> run(x, all));
        due(7, "undo", x::undo);
        due(before, "the state after undo", () -> stateOf(x));
        due(6, "a program", () -> run(x, all));
        x.setSize(1, 1);
        x.withdraw(2);
        due(3, "restore", x::restore);
        due(before, "the state after restore", () -> stateOf(x));
        x.setSize(1, 1);
        x.withdraw(2);
        x.undo();
        x.undo();
        due(before, "the state after undo of a size and a timetable", () -> stateOf(x));
        OptionBlockPlanner y = planner(sizes(1, 1, 1), 3, 1);
        wish(y, 0, 0, 1);
        y.save();
        y.undo();
        y.addWish(0, 2);
        y.undo();
        due(Check.MISSING, "wishAt(0, 1) after undo", () -> y.wishAt(0, 1));
        y.addWish(0, 2);
        y.restore();
        due(1, "wishAt(0, 1) after restore", () -> y.wishAt(0, 1));
    }

    private static void lastChainIsUndone() {
        Check.sentence("including the last chain.");
        OptionBlockPlanner x = chainOf(1);
        x.save();
        x.join(1, 0);
        due(1, "chainMoves", x::chainMoves);
        x.undo();
        due(0, "chainMoves after undo", x::chainMoves);
        due(Check.MISSING, "chainPupil(0) after undo", () -> x.chainPupil(0));
        x.join(1, 0);
        x.restore();
        due(0, "chainMoves after restore", x::chainMoves);
        OptionBlockPlanner y = planner(sizes(1), 1, 1);
        y.openClass(0, 0);
        y.save();
        y.join(0, 0);
        due(0, "chainMoves of the first chain", y::chainMoves);
        y.undo();
        due(Check.MISSING, "chainMoves after undo of the first chain", y::chainMoves);
        y.join(0, 0);
        y.restore();
        due(Check.MISSING, "chainMoves after restore of what was before it", y::chainMoves);
        OptionBlockPlanner z = twoChains();
        z.join(1, 0);
        z.save();
        z.join(3, 2);
        dueLastChain(2, 2, z);
        z.undo();
        dueLastChain(0, 1, z);
        z.join(3, 2);
        z.restore();
        dueLastChain(0, 1, z);
    }

    /** Pupils 1 and 3 can join the subjects 0 and 2 by moves of other pupils into different blocks. */
    private static OptionBlockPlanner twoChains() {
        OptionBlockPlanner x = planner(sizes(1, 9, 1, 9), 3, 4);
        open(x, 0, 0);
        open(x, 1, 1);
        open(x, 2, 0);
        open(x, 3, 2);
        for (int number : upTo(4)) {
            x.join(number, number);
        }
        open(x, 0, 1);
        open(x, 2, 2);
        return x;
    }

    private static void dueLastChain(int pupil, int block, OptionBlockPlanner x) {
        due(1, "chainMoves", x::chainMoves);
        due(pupil, "chainPupil(0)", () -> x.chainPupil(0));
        due(block, "chainBlock(0)", () -> x.chainBlock(0));
    }

    // ---- exceptions

    private static void nothing(String want, String name, Consumer<OptionBlockPlanner> call) {
        dueNothing(want, name, TermsTest::noted, call);
    }

    private static void exceptionsChangeNothing() {
        Check.sentence("A method that throws an exception changes nothing,");
        nothing(Check.ARGUMENT, "addSubject(0)", x -> x.addSubject(0));
        nothing(Check.INDEX, "setSize(3, 1)", x -> x.setSize(3, 1));
        nothing(Check.ARGUMENT, "setSize(0, 10)", x -> x.setSize(0, 10));
        nothing(Check.STATE, "setSize(1, 1)", x -> x.setSize(1, 1));
        nothing(Check.INDEX, "sizeOf(3)", x -> x.sizeOf(3));
        nothing(Check.ARGUMENT, "setBlockCount(5)", x -> x.setBlockCount(5));
        nothing(Check.STATE, "setBlockCount(1)", x -> x.setBlockCount(1));
        nothing(Check.INDEX, "openClass(2, 2)", x -> x.openClass(2, 2));
        nothing(Check.STATE, "openClass(0, 0)", x -> x.openClass(0, 0));
        nothing(Check.INDEX, "closeClass(3, 0)", x -> x.closeClass(3, 0));
        nothing(Check.STATE, "closeClass(0, 0)", x -> x.closeClass(0, 0));
        nothing(Check.STATE, "closeClass(2, 0)", x -> x.closeClass(2, 0));
        nothing(Check.INDEX, "isOpen(0, 2)", x -> x.isOpen(0, 2));
        nothing(Check.INDEX, "pupilsInClass(0, 2)", x -> x.pupilsInClass(0, 2));
        nothing(Check.INDEX, "pupilInClass(3, 0, 0)", x -> x.pupilInClass(3, 0, 0));
        nothing(Check.MISSING, "pupilInClass(0, 0, 1)", x -> x.pupilInClass(0, 0, 1));
        nothing(Check.INDEX, "addWish(4, 0)", x -> x.addWish(4, 0));
        nothing(Check.STATE, "addWish(0, 0)", x -> x.addWish(0, 0));
        nothing(Check.STATE, "addWish(1, 2)", x -> x.addWish(1, 2));
        nothing(Check.INDEX, "setReserve(0, 3)", x -> x.setReserve(0, 3));
        nothing(Check.STATE, "setReserve(0, 0)", x -> x.setReserve(0, 0));
        nothing(Check.STATE, "setReserve(1, 2)", x -> x.setReserve(1, 2));
        nothing(Check.INDEX, "wishCount(4)", x -> x.wishCount(4));
        nothing(Check.INDEX, "wishAt(4, 0)", x -> x.wishAt(4, 0));
        nothing(Check.MISSING, "wishAt(0, 1)", x -> x.wishAt(0, 1));
        nothing(Check.INDEX, "reserveOf(4)", x -> x.reserveOf(4));
        nothing(Check.INDEX, "subjectIn(0, 2)", x -> x.subjectIn(0, 2));
        nothing(Check.INDEX, "blockOf(0, 3)", x -> x.blockOf(0, 3));
        nothing(Check.INDEX, "enrol(4)", x -> x.enrol(4));
        nothing(Check.STATE, "enrol(0)", x -> x.enrol(0));
        nothing(Check.STATE, "enrol(3)", x -> x.enrol(3));
        nothing(Check.INDEX, "withdraw(4)", x -> x.withdraw(4));
        nothing(Check.STATE, "withdraw(3)", x -> x.withdraw(3));
        exceptionsOfLateChangesChangeNothing();
    }

    private static void exceptionsOfLateChangesChangeNothing() {
        nothing(Check.INDEX, "bestValue(4)", x -> x.bestValue(4));
        nothing(Check.INDEX, "bestValueBySets(4)", x -> x.bestValueBySets(4));
        nothing(Check.INDEX, "canServe(4)", x -> x.canServe(4));
        nothing(Check.INDEX, "canServeByCounting(4)", x -> x.canServeByCounting(4));
        nothing(Check.INDEX, "movesFor(0, 3)", x -> x.movesFor(0, 3));
        nothing(Check.STATE, "movesFor(0, 0)", x -> x.movesFor(0, 0));
        nothing(Check.MISSING, "movesFor(0, 2)", x -> x.movesFor(0, 2));
        nothing(Check.MISSING, "movesFor(3, 0)", x -> x.movesFor(3, 0));
        nothing(Check.INDEX, "movesByTrial(0, 3)", x -> x.movesByTrial(0, 3));
        nothing(Check.STATE, "movesByTrial(0, 0)", x -> x.movesByTrial(0, 0));
        nothing(Check.MISSING, "movesByTrial(3, 0)", x -> x.movesByTrial(3, 0));
        nothing(Check.INDEX, "join(4, 0)", x -> x.join(4, 0));
        nothing(Check.STATE, "join(0, 0)", x -> x.join(0, 0));
        nothing(Check.INDEX, "quit(0, 3)", x -> x.quit(0, 3));
        nothing(Check.STATE, "quit(0, 1)", x -> x.quit(0, 1));
        nothing(Check.INDEX, "change(0, 0, 3)", x -> x.change(0, 0, 3));
        nothing(Check.STATE, "change(0, 1, 2)", x -> x.change(0, 1, 2));
        nothing(Check.STATE, "change(1, 0, 1)", x -> x.change(1, 0, 1));
        nothing(Check.STATE, "change(0, 0, 0)", x -> x.change(0, 0, 0));
        nothing(Check.MISSING, "chainPupil(1)", x -> x.chainPupil(1));
        nothing(Check.MISSING, "chainBlock(-1)", x -> x.chainBlock(-1));
        nothing(Check.INDEX, "commonWishes(0, 3)", x -> x.commonWishes(0, 3));
        nothing(Check.ARGUMENT, "commonWishes(0, 0)", x -> x.commonWishes(0, 0));
        nothing(Check.INDEX, "doClash(3, 0)", x -> x.doClash(3, 0));
        nothing(Check.ARGUMENT, "doClash(2, 2)", x -> x.doClash(2, 2));
        nothing(Check.STATE, "arrange", x -> x.arrange());
        nothing(Check.INDEX, "writeTimetable(4)", x -> x.writeTimetable(4));
        nothing(Check.INDEX, "lineAt(6)", x -> x.lineAt(6));
        nothing(Check.ARGUMENT, "type of a character too low", x -> x.type((char) 31));
        nothing(Check.ARGUMENT, "type of a character too high", x -> x.type((char) 127));
    }

    private static void exceptionsAtTheLimitsChangeNothing() {
        Check.sentence("A method that throws an exception changes nothing,");
        dueNothing(Check.STATE, "an eighth subject", () -> {
            OptionBlockPlanner x = planner(sizes(1, 2, 3, 4, 5, 6, 7), 1, 0);
            x.save();
            x.restore();
            return x;
        }, x -> x.addSubject(1));
        dueNothing(Check.STATE, "a thirteenth pupil", () -> {
            OptionBlockPlanner x = planner(sizes(), 1, 12);
            x.save();
            x.restore();
            return x;
        }, x -> x.addPupil());
        dueNothing(Check.STATE, "a fourth wish", () -> {
            OptionBlockPlanner x = planner(sizes(1, 1, 1, 1), 2, 1);
            wish(x, 0, 3, 1, 0);
            return x;
        }, x -> x.addWish(0, 2));
        dueNothing(Check.STATE, "a character too many", () -> {
            OptionBlockPlanner x = new OptionBlockPlanner();
            type(x, "pupil;pupil;pupil;pupil;pupil;pupil;pupil;pupil;pupil;pupil;");
            return x;
        }, x -> x.type('p'));
        Supplier<OptionBlockPlanner> begin = OptionBlockPlanner::new;
        dueNothing(Check.ARITHMETIC, "meanClassSize", begin, x -> x.meanClassSize());
        dueNothing(Check.MISSING, "refusalReason", begin, x -> x.refusalReason());
        dueNothing(Check.MISSING, "chainMoves", begin, x -> x.chainMoves());
        dueNothing(Check.MISSING, "errorPosition", begin, x -> x.errorPosition());
        dueNothing(Check.MISSING, "failedCommand", begin, x -> x.failedCommand());
        dueNothing(Check.MISSING, "failureKind", begin, x -> x.failureKind());
        dueNothing(Check.STATE, "undo", begin, x -> x.undo());
        dueNothing(Check.STATE, "restore", begin, x -> x.restore());
    }

    private static void executeStoresItsFault() {
        Check.sentence("except that execute empties the buffer and stores what its description says,");
        String before = stateOf(noted());
        OptionBlockPlanner x = noted();
        due(Check.ARGUMENT, "execute of a malformed program", () -> run(x, "l;open 2 0;z"));
        due("1: 0 1|1|15|1|1", "line, reason, error position, failed command and kind", () -> notesOf(x));
        due(before, "the state", () -> stateOf(x));
        due(1, "type into the emptied buffer", () -> x.type('p'));
        x.writeTimetable(0);
        due(Check.STATE, "execute of a program that fails", () -> run(x, "upil;open 2 0;subject 0"));
        due("0: - 0|1|15|2|2", "line, reason, error position, failed command and kind", () -> notesOf(x));
        due(before, "the state", () -> stateOf(x));
        due(1, "type into the emptied buffer", () -> x.type('p'));
        due(1, "undo, for no program counts", x::undo);
        due(0, "undo", x::undo);
    }

    private static void refusalStoresItsReason() {
        Check.sentence("and that a refused join or change stores its reason.");
        // The reason is the one that was stored before, so that all is as before.
        nothing(Check.REFUSED, "join(3, 2)", x -> x.join(3, 2));
        nothing(Check.REFUSED, "change(0, 0, 2)", x -> x.change(0, 0, 2));
        OptionBlockPlanner x = noted();
        due(Check.REFUSED, "join(3, 0)", () -> x.join(3, 0));
        due(3, "refusalReason", x::refusalReason);
        due(Check.REFUSED, "change(0, 0, 2)", () -> x.change(0, 0, 2));
        due(1, "refusalReason", x::refusalReason);
        due(Check.REFUSED, "join(2, 2)", () -> x.join(2, 2));
        due(Check.REFUSED, "change(2, 1, 0)", () -> x.change(2, 1, 0));
        due(3, "refusalReason", x::refusalReason);
    }

    private static void firstException() {
        Check.sentence("If several exceptions apply, the one that is documented first is thrown.");
        OptionBlockPlanner x = planner(sizes(1, 1, 1, 2, 1, 1, 1), 3, 2);
        open(x, 3, 2);
        x.join(0, 3);
        x.join(1, 3);
        wish(x, 0, 0, 1, 2);
        due(Check.ARGUMENT, "addSubject(0) with 7 subjects", () -> x.addSubject(0));
        due(Check.INDEX, "setSize(7, 0)", () -> x.setSize(7, 0));
        due(Check.ARGUMENT, "setSize(3, 0) with pupils", () -> x.setSize(3, 0));
        due(Check.ARGUMENT, "setBlockCount(0) with an open class", () -> x.setBlockCount(0));
        due(Check.INDEX, "pupilInClass(7, 0, -1)", () -> x.pupilInClass(7, 0, -1));
        due(Check.INDEX, "pupilInClass(0, 3, -1)", () -> x.pupilInClass(0, 3, -1));
        due(Check.INDEX, "addWish(0, 7) with 3 wishes", () -> x.addWish(0, 7));
        due(Check.INDEX, "wishAt(2, -1)", () -> x.wishAt(2, -1));
        due(Check.STATE, "movesFor(0, 3), attended and full", () -> x.movesFor(0, 3));
        due(Check.STATE, "movesByTrial(0, 3), attended and full", () -> x.movesByTrial(0, 3));
        due(Check.STATE, "join(0, 3), attended and full", () -> x.join(0, 3));
        due(Check.INDEX, "change(0, 0, 7), not attended", () -> x.change(0, 0, 7));
        due(Check.STATE, "change(0, 0, 1), not attended and not open", () -> x.change(0, 0, 1));
        due(Check.STATE, "change(0, 3, 3)", () -> x.change(0, 3, 3));
        due(Check.MISSING, "refusalReason", x::refusalReason);
        due(Check.INDEX, "commonWishes(7, 7)", () -> x.commonWishes(7, 7));
        due(Check.INDEX, "doClash(-1, -1)", () -> x.doClash(-1, -1));
        due(Check.ARGUMENT, "a program that fails and is malformed", () -> run(x, "enrol 9;z"));
        due(Check.MISSING, "failedCommand", x::failedCommand);
        for (int length = 1; length <= 60; length++) {
            x.type('x');
        }
        due(Check.ARGUMENT, "type of a wrong character into a full buffer", () -> x.type((char) 128));
    }

    private static void constants() {
        Check.sentence("NONE = -1: There is no such subject or block.");
        OptionBlockPlanner x = planner(sizes(1), 1, 1);
        due(-1, "NONE", () -> OptionBlockPlanner.NONE);
        due(OptionBlockPlanner.NONE, "reserveOf(0)", () -> x.reserveOf(0));
        due(OptionBlockPlanner.NONE, "subjectIn(0, 0)", () -> x.subjectIn(0, 0));
        due(OptionBlockPlanner.NONE, "blockOf(0, 0)", () -> x.blockOf(0, 0));
        Check.sentence("Reasons of refusals: no class of the subject is open; the pupil is not free where one is "
                + "open; the classes are full and no moves help.");
        due(1, "NOT_OPEN", () -> OptionBlockPlanner.NOT_OPEN);
        due(2, "NOT_FREE", () -> OptionBlockPlanner.NOT_FREE);
        due(3, "FULL", () -> OptionBlockPlanner.FULL);
        Check.sentence("Kinds of failures of commands: IndexOutOfBoundsException, IllegalArgumentException, "
                + "IllegalStateException, UnsupportedOperationException.");
        due(1, "BAD_INDEX", () -> OptionBlockPlanner.BAD_INDEX);
        due(2, "BAD_ARGUMENT", () -> OptionBlockPlanner.BAD_ARGUMENT);
        due(3, "BAD_STATE", () -> OptionBlockPlanner.BAD_STATE);
        due(4, "REFUSED", () -> OptionBlockPlanner.REFUSED);
    }
}
