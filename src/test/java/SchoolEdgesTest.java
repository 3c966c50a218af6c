/** The sentences of the promises 1 to 30 that name a boundary case, each with a test of its own. */
public final class SchoolEdgesTest extends Schools {
    private static final String NO_SUBJECT = "Throws IndexOutOfBoundsException if there is no such subject";
    private static final String NO_CLASS = "Throws IndexOutOfBoundsException if there is no such subject or block";
    private static final String NO_PUPIL = "Throws IndexOutOfBoundsException if there is no such pupil";
    private static final String NO_PUPIL_OR_SUBJECT =
            "Throws IndexOutOfBoundsException if there is no such pupil or subject";
    private static final String BAD_SIZE = "Throws IllegalArgumentException if the size is out of range";
    private static final String OPEN_AFTERWARDS = "Returns the number of open classes of the subject afterwards.";
    private static final int[] FAR = {0, -1, -9, 10, 11, 256, 257, Integer.MAX_VALUE, Integer.MIN_VALUE,
        Integer.MIN_VALUE + 1};

    private SchoolEdgesTest() {
    }

    public static void main(String[] args) {
        promise1();
        promise2();
        promise3();
        promises4And5();
        promises6And7();
        promise8();
        promise9();
        promises10And11();
        promise12();
        promises13And14();
        promise15();
        promise15Refused();
        promise16();
        promises17To19();
        promise20();
        promise21();
        promise22();
        promise23();
        promise24();
        promises25And26();
        promises27And28();
        promise29();
        promise30();
        Check.end("SchoolEdgesTest");
    }

    // ---- subjects, blocks and classes

    private static void promise1() {
        sentence(1, "Creates a planner without subjects and pupils.");
        OptionBlockPlanner x = new OptionBlockPlanner();
        due(0, "subjectCount", x::subjectCount);
        due(0, "pupilCount", x::pupilCount);
        due(Check.INDEX, "sizeOf(0)", () -> x.sizeOf(0));
        due(Check.INDEX, "wishCount(0)", () -> x.wishCount(0));
        OptionBlockPlanner y = new OptionBlockPlanner();
        x.addSubject(1);
        x.addPupil();
        x.save();
        x.writeTimetable(0);
        x.type('p');
        Check.answerOf(() -> x.join(0, 0));
        run(x, "z");
        run(x, "enrol 9");
        due(lifeOf(new OptionBlockPlanner()), "a planner beside one that is used", () -> lifeOf(y));
    }

    private static void promise2() {
        sentence(2, "Returns the number of the subject.");
        OptionBlockPlanner x = new OptionBlockPlanner();
        for (int subject : upTo(7)) {
            due(subject, "addSubject", () -> x.addSubject(1));
        }
        x.undo();
        due(6, "addSubject after undo", () -> x.addSubject(1));
        sentence(2, BAD_SIZE);
        for (int size : FAR) {
            due(Check.ARGUMENT, "addSubject(" + size + ")", () -> new OptionBlockPlanner().addSubject(size));
        }
        for (int size : new int[] {1, 9}) {
            due(0, "addSubject(" + size + ")", () -> new OptionBlockPlanner().addSubject(size));
        }
        sentence(2, "Throws IllegalStateException if there are 7 subjects");
        OptionBlockPlanner y = planner(sizes(1, 1, 1, 1, 1, 1), 3, 0);
        due(6, "a seventh subject", () -> y.addSubject(9));
        due(Check.STATE, "an eighth subject", () -> y.addSubject(9));
        due(Check.STATE, "an eighth subject once more", () -> y.addSubject(1));
        due(7, "subjectCount", y::subjectCount);
    }

    private static void promise3() {
        sentence(3, "Returns the previous size.");
        OptionBlockPlanner x = planner(sizes(4, 5), 3, 0);
        due(4, "setSize(0, 9)", () -> x.setSize(0, 9));
        due(9, "setSize(0, 1)", () -> x.setSize(0, 1));
        due(1, "setSize(0, 1) again", () -> x.setSize(0, 1));
        due(5, "setSize(1, 2)", () -> x.setSize(1, 2));
        sentence(3, NO_SUBJECT);
        dueSubjectIndex("setSize", (y, number) -> y.setSize(number, 5));
        sentence(3, BAD_SIZE);
        for (int size : FAR) {
            due(Check.ARGUMENT, "setSize(1, " + size + ")", () -> x.setSize(1, size));
        }
        due(2, "setSize(1, 9)", () -> x.setSize(1, 9));
        due(9, "setSize(1, 1)", () -> x.setSize(1, 1));
        sentence(3, "Throws IllegalStateException if a class of the subject has more pupils than this");
        OptionBlockPlanner y = classesOfSeveralSizes();
        due(Check.STATE, "setSize(0, 1)", () -> y.setSize(0, 1));
        due(Check.STATE, "setSize(0, 2), one too few for the fullest class", () -> y.setSize(0, 2));
        due(9, "setSize(0, 3), which all classes fit", () -> y.setSize(0, 3));
        y.quit(2, 0);
        due(3, "setSize(0, 2) after a quit", () -> y.setSize(0, 2));
        due(9, "setSize(1, 1) of another subject", () -> y.setSize(1, 1));
        for (int block : upTo(4)) {
            OptionBlockPlanner z = planner(sizes(9), 4, 2);
            z.openClass(0, block);
            z.join(0, 0);
            z.join(1, 0);
            due(Check.STATE, "setSize(0, 1) with two pupils in block " + block, () -> z.setSize(0, 1));
            due(9, "setSize(0, 2) with two pupils in block " + block, () -> z.setSize(0, 2));
        }
    }

    /** 1, 0, 3 and 2 pupils in the classes of subject 0. */
    private static OptionBlockPlanner classesOfSeveralSizes() {
        OptionBlockPlanner x = planner(sizes(9, 9), 4, 6);
        // Those who join choose the lowest block, so the highest one is filled first.
        int[] blocks = {3, 3, 2, 2, 2, 0};
        for (int pupil : upTo(6)) {
            if (!x.isOpen(0, blocks[pupil])) {
                x.openClass(0, blocks[pupil]);
            }
            x.join(pupil, 0);
        }
        return x;
    }

    private static void promises4And5() {
        sentence(4, "Returns the number of subjects.");
        OptionBlockPlanner x = new OptionBlockPlanner();
        for (int count : upTo(7)) {
            due(count, "subjectCount", x::subjectCount);
            x.addSubject(1 + count);
        }
        due(7, "subjectCount when full", x::subjectCount);
        x.undo();
        due(6, "subjectCount after undo", x::subjectCount);
        sentence(5, "Returns the size.");
        for (int subject : upTo(6)) {
            due(1 + subject, "sizeOf(" + subject + ")", () -> x.sizeOf(subject));
        }
        sentence(5, NO_SUBJECT);
        dueSubjectIndex("sizeOf", (y, number) -> y.sizeOf(number));
        due(Check.INDEX, "sizeOf(6) that was undone", () -> x.sizeOf(6));
    }

    private static void promises6And7() {
        sentence(6, "Returns the previous number of blocks.");
        OptionBlockPlanner x = planner(sizes(1, 1, 1), 3, 0);
        due(3, "setBlockCount(1)", () -> x.setBlockCount(1));
        due(1, "setBlockCount(4)", () -> x.setBlockCount(4));
        due(4, "setBlockCount(4) again", () -> x.setBlockCount(4));
        sentence(6, "Throws IllegalArgumentException if the number is out of range");
        for (int count : new int[] {0, 5, -1, 6, 257, 1 << 30, Integer.MAX_VALUE, Integer.MIN_VALUE}) {
            due(Check.ARGUMENT, "setBlockCount(" + count + ")", () -> x.setBlockCount(count));
        }
        sentence(6, "Throws IllegalStateException if a class is open in a block that would not exist any more");
        for (int subject : upTo(3)) {
            x.openClass(subject, 2);
            due(4, "setBlockCount(3) with block 2 in use", () -> x.setBlockCount(3));
            due(Check.STATE, "setBlockCount(2) with block 2 in use", () -> x.setBlockCount(2));
            due(Check.STATE, "setBlockCount(1) with block 2 in use", () -> x.setBlockCount(1));
            due(3, "setBlockCount(4) with block 2 in use", () -> x.setBlockCount(4));
            x.openClass(subject, 3);
            due(Check.STATE, "setBlockCount(3) with block 3 in use", () -> x.setBlockCount(3));
            x.closeClass(subject, 3);
            x.closeClass(subject, 2);
        }
        x.openClass(1, 0);
        due(4, "setBlockCount(1) with block 0 in use", () -> x.setBlockCount(1));
        sentence(7, "Returns the number of blocks.");
        due(1, "blockCount", x::blockCount);
        x.setBlockCount(4);
        due(4, "blockCount", x::blockCount);
        due(Check.ARGUMENT, "setBlockCount(5)", () -> x.setBlockCount(5));
        due(4, "blockCount after a refusal", x::blockCount);
        due(3, "blockCount of a new planner", () -> new OptionBlockPlanner().blockCount());
    }

    private static void promise8() {
        sentence(8, OPEN_AFTERWARDS);
        OptionBlockPlanner x = planner(sizes(1, 1), 4, 0);
        x.openClass(0, 0);
        int[] blocks = {2, 0, 3, 1};
        for (int index : upTo(4)) {
            due(index + 1, "openClass(1, " + blocks[index] + ")", () -> x.openClass(1, blocks[index]));
        }
        sentence(8, NO_CLASS);
        dueSubjectIndex("openClass", (y, number) -> y.openClass(number, 0));
        dueBlockIndex("openClass", (y, number) -> y.openClass(2, number));
        sentence(8, "Throws IllegalStateException if this class is open already");
        due(Check.STATE, "openClass(0, 0) again", () -> x.openClass(0, 0));
        due(2, "openClass(0, 1) of another block", () -> x.openClass(0, 1));
        x.closeClass(0, 0);
        due(2, "openClass(0, 0) after closeClass", () -> x.openClass(0, 0));
    }

    private static void promise9() {
        sentence(9, OPEN_AFTERWARDS);
        OptionBlockPlanner x = planner(sizes(9, 9), 4, 2);
        open(x, 0, 0, 1, 2, 3);
        open(x, 1, 0, 1);
        int[] blocks = {2, 0, 3, 1};
        for (int index : upTo(4)) {
            due(3 - index, "closeClass(0, " + blocks[index] + ")", () -> x.closeClass(0, blocks[index]));
        }
        sentence(9, NO_CLASS);
        dueSubjectIndex("closeClass", (y, number) -> y.closeClass(number, 0));
        dueBlockIndex("closeClass", (y, number) -> y.closeClass(0, number));
        sentence(9, "Throws IllegalStateException if this class is not open, or has a pupil");
        due(Check.STATE, "closeClass(0, 0), not open", () -> x.closeClass(0, 0));
        x.join(1, 1);
        due(Check.STATE, "closeClass(1, 0) with a pupil", () -> x.closeClass(1, 0));
        due(1, "closeClass(1, 1) beside a class with a pupil", () -> x.closeClass(1, 1));
        x.quit(1, 1);
        due(0, "closeClass(1, 0) after quit", () -> x.closeClass(1, 0));
    }

    private static void promises10And11() {
        sentence(10, "Returns whether it is open.");
        OptionBlockPlanner x = planner(sizes(9, 9), 4, 12);
        open(x, 1, 3);
        for (int block : upTo(4)) {
            due(block == 3, "isOpen(1, " + block + ")", () -> x.isOpen(1, block));
            due(false, "isOpen(0, " + block + ")", () -> x.isOpen(0, block));
        }
        sentence(10, NO_CLASS);
        dueSubjectIndex("isOpen", (y, number) -> y.isOpen(number, 0));
        dueBlockIndex("isOpen", (y, number) -> y.isOpen(0, number));
        sentence(11, "Returns the number of pupils, 0 if the class is not open.");
        due(0, "pupilsInClass(0, 0) that is not open", () -> x.pupilsInClass(0, 0));
        due(0, "pupilsInClass(1, 3) without pupils", () -> x.pupilsInClass(1, 3));
        for (int pupil : upTo(9)) {
            x.join(pupil, 1);
            due(pupil + 1, "pupilsInClass(1, 3)", () -> x.pupilsInClass(1, 3));
        }
        for (int pupil : upTo(9)) {
            x.quit(pupil, 1);
        }
        x.closeClass(1, 3);
        due(0, "pupilsInClass(1, 3) that is closed", () -> x.pupilsInClass(1, 3));
        sentence(11, NO_CLASS);
        dueSubjectIndex("pupilsInClass", (y, number) -> y.pupilsInClass(number, 0));
        dueBlockIndex("pupilsInClass", (y, number) -> y.pupilsInClass(0, number));
    }

    private static void promise12() {
        sentence(12, "the index among the pupils of the class in ascending order, from 0");
        OptionBlockPlanner x = planner(sizes(9, 9), 3, 12);
        open(x, 0, 1);
        for (int pupil : new int[] {11, 3, 0, 7}) {
            x.join(pupil, 0);
        }
        int[] pupils = {0, 3, 7, 11};
        for (int index : upTo(4)) {
            due(pupils[index], "pupilInClass(0, 1, " + index + ")", () -> x.pupilInClass(0, 1, index));
        }
        x.quit(3, 0);
        due(7, "pupilInClass(0, 1, 1) after a quit", () -> x.pupilInClass(0, 1, 1));
        sentence(12, NO_CLASS);
        dueSubjectIndex("pupilInClass", (y, number) -> y.pupilInClass(number, 0, 0));
        dueBlockIndex("pupilInClass", (y, number) -> y.pupilInClass(0, number, 0));
        sentence(12, "Throws NoSuchElementException if there is no such index");
        for (int index : new int[] {-1, 3, 4, 31, 32, Integer.MAX_VALUE, Integer.MIN_VALUE}) {
            due(Check.MISSING, "pupilInClass(0, 1, " + index + ")", () -> x.pupilInClass(0, 1, index));
        }
        x.openClass(1, 0);
        due(Check.MISSING, "pupilInClass(1, 0, 0) without pupils", () -> x.pupilInClass(1, 0, 0));
        due(Check.MISSING, "pupilInClass(1, 1, 0), not open", () -> x.pupilInClass(1, 1, 0));
    }

    // ---- pupils

    private static void promises13And14() {
        sentence(13, "Adds a pupil without wishes.");
        OptionBlockPlanner x = planner(sizes(1, 1), 3, 1);
        wish(x, 0, 0);
        x.setReserve(0, 1);
        x.undo();
        x.undo();
        x.undo();
        due(0, "addPupil in place of one that was undone", x::addPupil);
        due(0, "wishCount(0)", () -> x.wishCount(0));
        due(-1, "reserveOf(0)", () -> x.reserveOf(0));
        due(Check.MISSING, "wishAt(0, 0)", () -> x.wishAt(0, 0));
        sentence(13, "Returns the number of the pupil.");
        for (int pupil = 1; pupil < 12; pupil++) {
            due(pupil, "addPupil", x::addPupil);
        }
        sentence(13, "Throws IllegalStateException if there are 12 pupils");
        due(Check.STATE, "a thirteenth pupil", x::addPupil);
        x.undo();
        due(11, "a twelfth pupil after undo", x::addPupil);
        due(Check.STATE, "a thirteenth pupil once more", x::addPupil);
        sentence(14, "Returns the number of pupils.");
        due(0, "pupilCount of a new planner", () -> new OptionBlockPlanner().pupilCount());
        due(12, "pupilCount", x::pupilCount);
        x.undo();
        due(11, "pupilCount after undo", x::pupilCount);
    }

    private static void promise15() {
        sentence(15, "Adds a wish, which gets the next rank. The timetable of the pupil does not change.");
        OptionBlockPlanner x = planner(sizes(9, 9, 9, 9), 3, 2);
        open(x, 0, 0);
        open(x, 3, 1);
        x.join(0, 3);
        x.addWish(0, 0);
        x.addWish(0, 3);
        dueTimetable("0: - 3 -", x, 0);
        due(0, "wishAt(0, 0)", () -> x.wishAt(0, 0));
        due(3, "wishAt(0, 1)", () -> x.wishAt(0, 1));
        sentence(15, "Returns the number of wishes of the pupil afterwards.");
        due(1, "addWish(1, 3)", () -> x.addWish(1, 3));
        due(2, "addWish(1, 1)", () -> x.addWish(1, 1));
        due(3, "addWish(1, 0)", () -> x.addWish(1, 0));
    }

    private static void promise15Refused() {
        sentence(15, NO_PUPIL_OR_SUBJECT);
        duePupilIndex("addWish", (y, number) -> y.addWish(number, 0));
        dueSubjectIndex("addWish", (y, number) -> y.addWish(0, number));
        sentence(15, "Throws IllegalStateException if the pupil has 3 wishes, "
                + "or the subject is one of them or the reserve");
        OptionBlockPlanner x = planner(sizes(1, 1, 1, 1, 1), 3, 2);
        x.setReserve(0, 0);
        due(Check.STATE, "the reserve as a first wish", () -> x.addWish(0, 0));
        x.addWish(0, 4);
        x.addWish(0, 1);
        due(Check.STATE, "the first wish again", () -> x.addWish(0, 4));
        due(Check.STATE, "the second wish again", () -> x.addWish(0, 1));
        due(Check.STATE, "the reserve as a third wish", () -> x.addWish(0, 0));
        due(3, "a third wish", () -> x.addWish(0, 2));
        due(Check.STATE, "a fourth wish", () -> x.addWish(0, 3));
        due(Check.STATE, "the third wish again", () -> x.addWish(0, 2));
        due(1, "the same wish of another pupil", () -> x.addWish(1, 0));
    }

    private static void promise16() {
        sentence(16, "Sets the reserve of a pupil, in place of an earlier one. "
                + "The timetable of the pupil does not change.");
        OptionBlockPlanner x = planner(sizes(9, 9, 9, 9, 9), 2, 2);
        open(x, 0, 0);
        open(x, 1, 1);
        x.join(0, 0);
        x.setReserve(0, 1);
        due(1, "reserveOf(0)", () -> x.reserveOf(0));
        dueTimetable("0: 0 -", x, 0);
        x.setReserve(0, 0);
        due(0, "reserveOf(0)", () -> x.reserveOf(0));
        dueTimetable("0: 0! -", x, 0);
        sentence(16, "Returns the previous reserve, NONE if there was none.");
        due(-1, "setReserve(1, 3)", () -> x.setReserve(1, 3));
        due(3, "setReserve(1, 0)", () -> x.setReserve(1, 0));
        due(0, "setReserve(1, 4)", () -> x.setReserve(1, 4));
        sentence(16, NO_PUPIL_OR_SUBJECT);
        duePupilIndex("setReserve", (y, number) -> y.setReserve(number, 0));
        dueSubjectIndex("setReserve", (y, number) -> y.setReserve(0, number));
        sentence(16, "Throws IllegalStateException if the subject is one of the wishes, or the reserve already");
        wish(x, 1, 2, 0, 1);
        for (int subject : new int[] {2, 0, 1, 4}) {
            due(Check.STATE, "setReserve(1, " + subject + ")", () -> x.setReserve(1, subject));
        }
        due(4, "setReserve(1, 3), the earlier one", () -> x.setReserve(1, 3));
        due(0, "setReserve(0, 2), a wish of another pupil", () -> x.setReserve(0, 2));
    }

    private static void promises17To19() {
        sentence(17, "Returns the number of wishes.");
        OptionBlockPlanner x = planner(sizes(1, 1, 1, 1), 3, 2);
        due(0, "wishCount(0)", () -> x.wishCount(0));
        int[] wishes = {3, 0, 2};
        for (int rank : upTo(3)) {
            x.addWish(0, wishes[rank]);
            due(rank + 1, "wishCount(0)", () -> x.wishCount(0));
        }
        x.setReserve(0, 1);
        due(3, "wishCount(0) with a reserve", () -> x.wishCount(0));
        sentence(17, NO_PUPIL);
        duePupilIndex("wishCount", (y, number) -> y.wishCount(number));
        sentence(18, "the rank, from 0");
        for (int rank : upTo(3)) {
            due(wishes[rank], "wishAt(0, " + rank + ")", () -> x.wishAt(0, rank));
        }
        sentence(18, NO_PUPIL);
        duePupilIndex("wishAt", (y, number) -> y.wishAt(number, 0));
        sentence(18, "Throws NoSuchElementException if the pupil has no wish of this rank");
        for (int rank : new int[] {-1, 3, 4, 1 << 30, Integer.MAX_VALUE, Integer.MIN_VALUE}) {
            due(Check.MISSING, "wishAt(0, " + rank + ")", () -> x.wishAt(0, rank));
        }
        x.addWish(1, 1);
        due(Check.MISSING, "wishAt(1, 1) of a pupil with one wish", () -> x.wishAt(1, 1));
        x.undo();
        due(Check.MISSING, "wishAt(1, 0) of a pupil without wishes", () -> x.wishAt(1, 0));
        due(Check.MISSING, "wishAt(1, -1), behind the wishes of the pupil before", () -> x.wishAt(1, -1));
        sentence(19, "Returns the subject, NONE if there is none.");
        due(1, "reserveOf(0)", () -> x.reserveOf(0));
        due(-1, "reserveOf(1)", () -> x.reserveOf(1));
        sentence(19, NO_PUPIL);
        duePupilIndex("reserveOf", (y, number) -> y.reserveOf(number));
    }

    private static void promise20() {
        sentence(20, "Returns the subject, NONE if the pupil is free in the block.");
        OptionBlockPlanner x = planner(sizes(9, 9, 9), 4, 2);
        open(x, 2, 0);
        open(x, 0, 3);
        x.join(1, 2);
        x.join(1, 0);
        int[] subjects = {2, -1, -1, 0};
        for (int block : upTo(4)) {
            due(subjects[block], "subjectIn(1, " + block + ")", () -> x.subjectIn(1, block));
            due(-1, "subjectIn(0, " + block + ")", () -> x.subjectIn(0, block));
        }
        x.quit(1, 0);
        due(-1, "subjectIn(1, 3) after quit", () -> x.subjectIn(1, 3));
        sentence(20, "Throws IndexOutOfBoundsException if there is no such pupil or block");
        duePupilIndex("subjectIn", (y, number) -> y.subjectIn(number, 0));
        dueBlockIndex("subjectIn", (y, number) -> y.subjectIn(0, number));
    }

    private static void promise21() {
        sentence(21, "Returns the block, NONE if the pupil does not attend the subject.");
        OptionBlockPlanner x = planner(sizes(9, 9, 9), 4, 2);
        open(x, 2, 0);
        open(x, 0, 3);
        wish(x, 1, 1);
        x.setReserve(1, 0);
        x.join(1, 2);
        x.join(1, 0);
        due(3, "blockOf(1, 0)", () -> x.blockOf(1, 0));
        due(-1, "blockOf(1, 1), a wish alone", () -> x.blockOf(1, 1));
        due(0, "blockOf(1, 2)", () -> x.blockOf(1, 2));
        due(-1, "blockOf(0, 0) of another pupil", () -> x.blockOf(0, 0));
        x.withdraw(1);
        due(-1, "blockOf(1, 0) after withdraw", () -> x.blockOf(1, 0));
        sentence(21, NO_PUPIL_OR_SUBJECT);
        duePupilIndex("blockOf", (y, number) -> y.blockOf(number, 0));
        dueSubjectIndex("blockOf", (y, number) -> y.blockOf(0, number));
    }

    // ---- placements

    private static void promise22() {
        sentence(22, "Returns the value of the placement.");
        OptionBlockPlanner x = planner(sizes(1, 1, 1, 9), 4, 4);
        for (int subject : upTo(3)) {
            x.openClass(subject, subject);
            wish(x, 0, subject);
            wish(x, 1, subject);
        }
        due(7, "enrol(0) with all wishes placed", () -> x.enrol(0));
        due(0, "enrol(1) with no wish placed", () -> x.enrol(1));
        sentence(22, NO_PUPIL);
        duePupilIndex("enrol", (y, number) -> y.enrol(number));
        sentence(22, "Throws IllegalStateException if the timetable of the pupil contains a class, "
                + "or the pupil has no wishes");
        due(Check.STATE, "enrol(0) again", () -> x.enrol(0));
        due(0, "enrol(1) again, whose timetable contains no class", () -> x.enrol(1));
        due(Check.STATE, "enrol(2) without wishes", () -> x.enrol(2));
        x.setReserve(2, 3);
        due(Check.STATE, "enrol(2) with a reserve alone", () -> x.enrol(2));
        open(x, 3, 3);
        x.join(1, 3);
        due(Check.STATE, "enrol(1) with a class that is no wish", () -> x.enrol(1));
        x.quit(1, 3);
        x.withdraw(0);
        due(7, "enrol(1) after quit", () -> x.enrol(1));
        x.addWish(2, 1);
        due(0, "enrol(2) with a wish and a reserve", () -> x.enrol(2));
        dueTimetable("2: - - - 3!", x, 2);
    }

    private static void promise23() {
        sentence(23, "Enrols all pupils who have wishes and whose timetables contain no class, "
                + "in ascending order, as enrol does.");
        OptionBlockPlanner x = planner(sizes(2, 9, 9), 2, 6);
        open(x, 0, 0);
        open(x, 1, 1);
        for (int pupil : new int[] {5, 4, 3, 1}) {
            x.addWish(pupil, 0);
            x.setReserve(pupil, 1);
        }
        x.setReserve(2, 1);
        x.join(1, 1);
        due(2, "enrolAll", x::enrolAll);
        String[] due = {"0: - -", "1: - 1!", "2: - -", "3: 0 -", "4: 0 -", "5: - 1!"};
        for (int pupil : upTo(6)) {
            dueTimetable(due[pupil], x, pupil);
        }
        sentence(23, "Returns the number of these pupils who attend all their wishes afterwards.");
        due(0, "enrolAll again, of nobody", x::enrolAll);
        due(0, "enrolAll without pupils", () -> new OptionBlockPlanner().enrolAll());
        x.withdraw(3);
        due(1, "enrolAll of one, beside another who attends all", x::enrolAll);
        x.addWish(0, 1);
        x.addWish(0, 2);
        due(0, "enrolAll of one who misses a wish", x::enrolAll);
        dueTimetable("0: - 1", x, 0);
        OptionBlockPlanner y = planner(sizes(9, 3), 2, 12);
        open(y, 0, 0);
        open(y, 1, 1);
        for (int pupil : upTo(12)) {
            y.addWish(pupil, pupil < 9 ? 0 : 1);
        }
        due(12, "enrolAll of all 12 pupils", y::enrolAll);
    }

    private static void promise24() {
        sentence(24, "Returns the number of classes that are removed.");
        for (int classes = 1; classes <= 4; classes++) {
            OptionBlockPlanner x = planner(sizes(9, 9, 9, 9), 4, 2);
            for (int subject : upTo(classes)) {
                x.openClass(subject, 3 - subject);
                x.join(0, subject);
                x.join(1, subject);
            }
            due(classes, "withdraw(1)", () -> x.withdraw(1));
            dueTimetable("1: - - - -", x, 1);
            due(classes, "withdraw(0)", () -> x.withdraw(0));
        }
        sentence(24, NO_PUPIL);
        duePupilIndex("withdraw", (y, number) -> y.withdraw(number));
        sentence(24, "Throws IllegalStateException if the timetable contains no class");
        OptionBlockPlanner x = planner(sizes(9), 3, 2);
        open(x, 0, 2);
        wish(x, 0, 0);
        x.join(1, 0);
        due(Check.STATE, "withdraw(0) with a wish alone", () -> x.withdraw(0));
        x.join(0, 0);
        due(1, "withdraw(0) with a class", () -> x.withdraw(0));
        due(Check.STATE, "withdraw(0) again", () -> x.withdraw(0));
    }

    private static void promises25And26() {
        OptionBlockPlanner x = planner(sizes(1, 1, 9), 2, 3);
        open(x, 0, 0);
        open(x, 1, 1);
        open(x, 2, 0, 1);
        wish(x, 0, 0, 1);
        x.setReserve(1, 0);
        sentence(25, "Returns the value of the best placement of a pupil, whatever its timetable contains, "
                + "by a search over blocks.");
        due(6, "bestValue(0) with an empty timetable", () -> x.bestValue(0));
        x.join(0, 2);
        due(6, "bestValue(0) with a subject that is no wish", () -> x.bestValue(0));
        x.quit(0, 2);
        x.enrol(0);
        due(6, "bestValue(0) with its wishes, whose classes are full", () -> x.bestValue(0));
        sentence(25, "Returns the value, 0 if the pupil has no wishes.");
        due(0, "bestValue(1) with a reserve alone", () -> x.bestValue(1));
        due(0, "bestValue(2)", () -> x.bestValue(2));
        sentence(25, NO_PUPIL);
        duePupilIndex("bestValue", (y, number) -> y.bestValue(number));
        sentence(26, "Returns the same value as bestValue, by trying the sets of wishes from the greatest value on "
                + "and collecting the sets of blocks that they can use.");
        due(6, "bestValueBySets(0)", () -> x.bestValueBySets(0));
        due(0, "bestValueBySets(1) with a reserve alone", () -> x.bestValueBySets(1));
        due(0, "bestValueBySets(2)", () -> x.bestValueBySets(2));
        x.addWish(2, 1);
        x.addWish(2, 2);
        due(2, "bestValueBySets(2) with a class that is full", () -> x.bestValueBySets(2));
        due(2, "bestValue(2) with a class that is full", () -> x.bestValue(2));
        sentence(26, NO_PUPIL);
        duePupilIndex("bestValueBySets", (y, number) -> y.bestValueBySets(number));
    }

    private static void dueService(boolean want, String name, OptionBlockPlanner x, int promise) {
        due(want, name, () -> promise == 27 ? x.canServe(0) : x.canServeByCounting(0));
    }

    private static void promises27And28() {
        for (int promise : new int[] {27, 28}) {
            sentence(promise, promise == 27 ? "Returns whether this is possible; true without wishes."
                    : "Returns the same as canServe, by comparing each set of wishes with the number of blocks "
                    + "in which a class of at least one of them is open.");
            OptionBlockPlanner x = planner(sizes(1, 1, 1, 9), 3, 2);
            dueService(true, "no wishes", x, promise);
            x.addWish(0, 0);
            dueService(false, "a wish that is not open", x, promise);
            x.openClass(0, 2);
            dueService(true, "a wish that is open", x, promise);
            x.addWish(0, 1);
            x.openClass(1, 2);
            dueService(false, "two wishes in one block", x, promise);
            x.openClass(1, 0);
            dueService(true, "two wishes in two blocks", x, promise);
            x.addWish(0, 2);
            open(x, 2, 0, 2);
            dueService(false, "three wishes in two blocks", x, promise);
            x.openClass(0, 1);
            dueService(true, "three wishes in three blocks", x, promise);
            x.closeClass(2, 0);
            x.closeClass(2, 2);
            dueService(false, "a third wish that is not open", x, promise);
            sentence(promise, promise == 27 ? "Returns whether all wishes of a pupil could be placed at once "
                    + "if classes had no sizes" : "Returns whether this is possible.");
            x.openClass(2, 0);
            x.join(1, 1);
            x.quit(1, 1);
            x.join(1, 2);
            dueService(true, "a class that is full", x, promise);
            open(x, 3, 1);
            x.join(0, 3);
            dueService(true, "a pupil who is not free", x, promise);
            sentence(promise, NO_PUPIL);
            duePupilIndex("canServe", (y, number) -> promise == 27 ? y.canServe(number)
                    : y.canServeByCounting(number));
        }
    }

    private static void promise29() {
        sentence(29, "Returns the number of pupils who have wishes and attend all of them.");
        OptionBlockPlanner x = planner(sizes(9, 9, 9), 3, 12);
        for (int subject : upTo(3)) {
            x.openClass(subject, subject);
        }
        due(0, "servedCount of pupils without wishes", x::servedCount);
        x.join(0, 0);
        due(0, "servedCount of one who attends no wish", x::servedCount);
        x.addWish(0, 0);
        due(1, "servedCount of one who attends its wish", x::servedCount);
        x.addWish(0, 2);
        due(0, "servedCount of one who misses a wish", x::servedCount);
        x.join(0, 2);
        x.join(0, 1);
        due(1, "servedCount of one who attends more than its wishes", x::servedCount);
        x.addWish(11, 1);
        x.setReserve(11, 0);
        x.join(11, 0);
        due(1, "servedCount beside one who attends its reserve", x::servedCount);
        x.join(11, 1);
        due(2, "servedCount of two", x::servedCount);
        due(0, "servedCount of nobody", () -> new OptionBlockPlanner().servedCount());
    }

    private static void promise30() {
        sentence(30, "Returns the number of pupils in all open classes divided by the number of open classes, "
                + "both converted to double; a pupil counts once for each of its classes.");
        OptionBlockPlanner x = planner(sizes(9, 9, 9), 4, 12);
        x.openClass(0, 0);
        due(0.0, "meanClassSize of an empty class", x::meanClassSize);
        x.join(0, 0);
        due(1.0, "meanClassSize of one pupil", x::meanClassSize);
        open(x, 1, 1);
        due(0.5, "meanClassSize of one pupil in two classes", x::meanClassSize);
        open(x, 2, 2);
        due(1.0 / 3.0, "meanClassSize of one pupil in three classes", x::meanClassSize);
        x.join(0, 1);
        due(2.0 / 3.0, "meanClassSize of one pupil with two classes", x::meanClassSize);
        for (int pupil = 1; pupil < 9; pupil++) {
            x.join(pupil, 0);
            x.join(pupil, 1);
        }
        due(6.0, "meanClassSize of two full classes and an empty one", x::meanClassSize);
        sentence(30, "Throws ArithmeticException if no class is open");
        due(Check.ARITHMETIC, "meanClassSize without subjects", () -> new OptionBlockPlanner().meanClassSize());
        OptionBlockPlanner y = planner(sizes(1), 3, 1);
        due(Check.ARITHMETIC, "meanClassSize with nothing open", y::meanClassSize);
        y.openClass(0, 2);
        due(0.0, "meanClassSize with a class open", y::meanClassSize);
        y.closeClass(0, 2);
        due(Check.ARITHMETIC, "meanClassSize with all closed again", y::meanClassSize);
    }
}
