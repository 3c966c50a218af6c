import java.util.function.Consumer;

/** For each promise: ordinary inputs, the edges that the document names, and wrong inputs. */
public final class PromisesTest extends Schools {
    private PromisesTest() {
    }

    public static void main(String[] args) {
        promise1NewObject();
        promise2AddSubject();
        promise3SetSize();
        promises4And5SubjectCountAndSizeOf();
        promises6And7BlockCount();
        promise8OpenClass();
        promise9CloseClass();
        promises10To12Classes();
        promises13And14Pupils();
        promise15AddWish();
        promise16SetReserve();
        promises17To19Wishes();
        promises20And21Timetables();
        promise22Enrol();
        promise22EnrolPrefers();
        promise23EnrolAll();
        promise23EnrolsInAscendingOrder();
        promise24Withdraw();
        promises25And26BestValue();
        promises27And28CanServe();
        promises26And28InOtherOrder();
        promise29ServedCount();
        promise30MeanClassSize();
        promises31And32Moves();
        promises31To33MoveIntoTheFirstBlock();
        promise33Join();
        promise33JoinPrefers();
        promise34Quit();
        promise35Change();
        promise36RefusalReason();
        promises37To39Chain();
        promise40CommonWishes();
        promise41DoClash();
        promise42ClashCount();
        promises43And44LeastClashes();
        promise44InOtherOrder();
        promise45Arrange();
        promises43To45GreatestClashes();
        promises46And47Line();
        promise48Type();
        promise49Execute();
        promise49ExecuteFails();
        promise49Commands();
        promise50ErrorPosition();
        promises51And52Failures();
        promise53Undo();
        promise53EachModification();
        promise53NotModifications();
        promise53BringsBackChains();
        promises54And55Snapshot();
        promise55BringsBackWishes();
        Check.end("PromisesTest");
    }

    private static void dueMalformed(int position, String text) {
        OptionBlockPlanner x = new OptionBlockPlanner();
        Check.due(Check.ARGUMENT, "execute of '" + text + "'", () -> run(x, text));
        Check.due(position, "the error position of '" + text + "'", x::errorPosition);
    }

    // ---- subjects, blocks and classes

    private static void promise1NewObject() {
        OptionBlockPlanner x = new OptionBlockPlanner();
        Check.due(0, "subjectCount", x::subjectCount);
        Check.due(0, "pupilCount", x::pupilCount);
        Check.due(3, "blockCount", x::blockCount);
        Check.due(0, "servedCount", x::servedCount);
        Check.due(0, "clashCount", x::clashCount);
        Check.due(Check.MISSING, "refusalReason", x::refusalReason);
        Check.due(Check.MISSING, "chainMoves", x::chainMoves);
        Check.due(Check.MISSING, "errorPosition", x::errorPosition);
        Check.due(Check.MISSING, "failedCommand", x::failedCommand);
        Check.due(Check.MISSING, "failureKind", x::failureKind);
        Check.due(Check.INDEX, "lineAt(0)", () -> x.lineAt(0));
        Check.due(Check.STATE, "undo", x::undo);
        Check.due(Check.STATE, "restore", x::restore);
        Check.due(-1, "NONE", () -> OptionBlockPlanner.NONE);
        Check.due(123, "the reasons", () -> OptionBlockPlanner.NOT_OPEN * 100
                + OptionBlockPlanner.NOT_FREE * 10 + OptionBlockPlanner.FULL);
        Check.due(1234, "the kinds", () -> OptionBlockPlanner.BAD_INDEX * 1000
                + OptionBlockPlanner.BAD_ARGUMENT * 100 + OptionBlockPlanner.BAD_STATE * 10
                + OptionBlockPlanner.REFUSED);
    }

    private static void promise2AddSubject() {
        OptionBlockPlanner x = new OptionBlockPlanner();
        for (int size : new int[] {0, -1, 10, Integer.MIN_VALUE, Integer.MAX_VALUE}) {
            Check.due(Check.ARGUMENT, "addSubject(" + size + ")", () -> x.addSubject(size));
        }
        for (int subject = 0; subject < 7; subject++) {
            int size = subject == 0 ? 9 : subject;
            Check.due(subject, "addSubject(" + size + ")", () -> x.addSubject(size));
        }
        Check.due(Check.STATE, "an eighth subject", () -> x.addSubject(1));
        Check.due(Check.ARGUMENT, "an eighth subject of size 0", () -> x.addSubject(0));
        Check.due(7, "subjectCount", x::subjectCount);
        Check.due(9, "sizeOf(0)", () -> x.sizeOf(0));
        Check.due(6, "sizeOf(6)", () -> x.sizeOf(6));
    }

    private static void promise3SetSize() {
        OptionBlockPlanner x = planner(sizes(3, 2), 3, 3);
        open(x, 0, 0, 1);
        x.join(0, 0);
        x.join(1, 0);
        Check.due(3, "setSize(0, 2)", () -> x.setSize(0, 2));
        Check.due(Check.STATE, "setSize(0, 1)", () -> x.setSize(0, 1));
        Check.due(2, "setSize(0, 9)", () -> x.setSize(0, 9));
        Check.due(9, "sizeOf(0)", () -> x.sizeOf(0));
        Check.due(2, "setSize(1, 1)", () -> x.setSize(1, 1));
        Check.due(Check.ARGUMENT, "setSize(0, 0)", () -> x.setSize(0, 0));
        Check.due(Check.ARGUMENT, "setSize(0, 10)", () -> x.setSize(0, 10));
        for (int subject : WRONG_NUMBERS) {
            Check.due(Check.INDEX, "setSize(" + subject + ", 0)", () -> x.setSize(subject, 0));
        }
        Check.due(Check.INDEX, "setSize(2, 1)", () -> x.setSize(2, 1));
        x.setSize(0, 2);
        x.join(2, 0);
        Check.due(1, "blockOf(2, 0)", () -> x.blockOf(2, 0));
        Check.due(Check.STATE, "setSize(0, 1) with three pupils", () -> x.setSize(0, 1));
        x.quit(0, 0);
        Check.due(2, "setSize(0, 1) with one pupil a class", () -> x.setSize(0, 1));
    }

    private static void promises4And5SubjectCountAndSizeOf() {
        OptionBlockPlanner x = planner(sizes(1, 9, 5), 3, 0);
        Check.due(3, "subjectCount", x::subjectCount);
        Check.due(1, "sizeOf(0)", () -> x.sizeOf(0));
        Check.due(9, "sizeOf(1)", () -> x.sizeOf(1));
        Check.due(5, "sizeOf(2)", () -> x.sizeOf(2));
        Check.due(Check.INDEX, "sizeOf(3)", () -> x.sizeOf(3));
        for (int subject : WRONG_NUMBERS) {
            Check.due(Check.INDEX, "sizeOf(" + subject + ")", () -> x.sizeOf(subject));
        }
    }

    private static void promises6And7BlockCount() {
        OptionBlockPlanner x = planner(sizes(2, 2), 3, 1);
        Check.due(3, "setBlockCount(4)", () -> x.setBlockCount(4));
        Check.due(4, "blockCount", x::blockCount);
        Check.due(4, "setBlockCount(4) again", () -> x.setBlockCount(4));
        for (int count : new int[] {0, 5, -1, Integer.MIN_VALUE, Integer.MAX_VALUE}) {
            Check.due(Check.ARGUMENT, "setBlockCount(" + count + ")", () -> x.setBlockCount(count));
        }
        x.openClass(1, 2);
        Check.due(Check.STATE, "setBlockCount(2)", () -> x.setBlockCount(2));
        Check.due(Check.STATE, "setBlockCount(1)", () -> x.setBlockCount(1));
        Check.due(Check.ARGUMENT, "setBlockCount(0)", () -> x.setBlockCount(0));
        Check.due(4, "setBlockCount(3)", () -> x.setBlockCount(3));
        x.closeClass(1, 2);
        x.openClass(0, 0);
        Check.due(3, "setBlockCount(1) with block 0 in use", () -> x.setBlockCount(1));
        Check.due(1, "blockCount", x::blockCount);
        Check.due(Check.INDEX, "isOpen(0, 1)", () -> x.isOpen(0, 1));
        x.setBlockCount(4);
        Check.due(false, "isOpen(1, 2) when it is back", () -> x.isOpen(1, 2));
        Check.due(true, "isOpen(0, 0)", () -> x.isOpen(0, 0));
    }

    private static void promise8OpenClass() {
        OptionBlockPlanner x = planner(sizes(1, 1), 3, 0);
        Check.due(1, "openClass(1, 2)", () -> x.openClass(1, 2));
        Check.due(2, "openClass(1, 0)", () -> x.openClass(1, 0));
        Check.due(1, "openClass(0, 0)", () -> x.openClass(0, 0));
        Check.due(Check.STATE, "openClass(1, 2) again", () -> x.openClass(1, 2));
        Check.due(3, "openClass(1, 1)", () -> x.openClass(1, 1));
        Check.due(Check.INDEX, "openClass(1, 3)", () -> x.openClass(1, 3));
        Check.due(Check.INDEX, "openClass(2, 0)", () -> x.openClass(2, 0));
        for (int number : WRONG_NUMBERS) {
            Check.due(Check.INDEX, "openClass(" + number + ", 0)", () -> x.openClass(number, 0));
            Check.due(Check.INDEX, "openClass(0, " + number + ")", () -> x.openClass(0, number));
        }
    }

    private static void promise9CloseClass() {
        OptionBlockPlanner x = planner(sizes(1, 1), 3, 1);
        open(x, 0, 0, 1, 2);
        Check.due(Check.STATE, "closeClass(1, 0)", () -> x.closeClass(1, 0));
        x.join(0, 0);
        Check.due(Check.STATE, "closeClass(0, 0) with a pupil", () -> x.closeClass(0, 0));
        Check.due(2, "closeClass(0, 1)", () -> x.closeClass(0, 1));
        Check.due(Check.STATE, "closeClass(0, 1) again", () -> x.closeClass(0, 1));
        x.quit(0, 0);
        Check.due(1, "closeClass(0, 0)", () -> x.closeClass(0, 0));
        Check.due(0, "closeClass(0, 2)", () -> x.closeClass(0, 2));
        Check.due(false, "isOpen(0, 0)", () -> x.isOpen(0, 0));
        Check.due(Check.INDEX, "closeClass(2, 0)", () -> x.closeClass(2, 0));
        Check.due(Check.INDEX, "closeClass(0, 3)", () -> x.closeClass(0, 3));
        for (int number : WRONG_NUMBERS) {
            Check.due(Check.INDEX, "closeClass(" + number + ", 0)", () -> x.closeClass(number, 0));
            Check.due(Check.INDEX, "closeClass(0, " + number + ")", () -> x.closeClass(0, number));
        }
    }

    private static void promises10To12Classes() {
        OptionBlockPlanner x = planner(sizes(3, 1), 2, 12);
        open(x, 0, 1);
        open(x, 1, 0);
        Check.due(true, "isOpen(0, 1)", () -> x.isOpen(0, 1));
        Check.due(false, "isOpen(0, 0)", () -> x.isOpen(0, 0));
        Check.due(0, "pupilsInClass(0, 0) that is not open", () -> x.pupilsInClass(0, 0));
        Check.due(0, "pupilsInClass(0, 1) that is empty", () -> x.pupilsInClass(0, 1));
        Check.due(Check.MISSING, "pupilInClass(0, 1, 0)", () -> x.pupilInClass(0, 1, 0));
        x.join(11, 0);
        x.join(2, 0);
        x.join(7, 0);
        x.join(7, 1);
        Check.due(3, "pupilsInClass(0, 1)", () -> x.pupilsInClass(0, 1));
        Check.due(1, "pupilsInClass(1, 0)", () -> x.pupilsInClass(1, 0));
        Check.due(2, "pupilInClass(0, 1, 0)", () -> x.pupilInClass(0, 1, 0));
        Check.due(7, "pupilInClass(0, 1, 1)", () -> x.pupilInClass(0, 1, 1));
        Check.due(11, "pupilInClass(0, 1, 2)", () -> x.pupilInClass(0, 1, 2));
        Check.due(Check.MISSING, "pupilInClass(0, 1, 3)", () -> x.pupilInClass(0, 1, 3));
        Check.due(Check.MISSING, "pupilInClass(0, 0, 0) that is not open", () -> x.pupilInClass(0, 0, 0));
        for (int number : WRONG_NUMBERS) {
            Check.due(Check.MISSING, "pupilInClass(0, 1, " + number + ")", () -> x.pupilInClass(0, 1, number));
            Check.due(Check.INDEX, "pupilInClass(" + number + ", 1, -1)", () -> x.pupilInClass(number, 1, -1));
            Check.due(Check.INDEX, "pupilInClass(0, " + number + ", 0)", () -> x.pupilInClass(0, number, 0));
            Check.due(Check.INDEX, "isOpen(" + number + ", 0)", () -> x.isOpen(number, 0));
            Check.due(Check.INDEX, "isOpen(0, " + number + ")", () -> x.isOpen(0, number));
            Check.due(Check.INDEX, "pupilsInClass(" + number + ", 0)", () -> x.pupilsInClass(number, 0));
            Check.due(Check.INDEX, "pupilsInClass(0, " + number + ")", () -> x.pupilsInClass(0, number));
        }
        Check.due(Check.INDEX, "isOpen(2, 0)", () -> x.isOpen(2, 0));
        Check.due(Check.INDEX, "isOpen(0, 2)", () -> x.isOpen(0, 2));
        Check.due(Check.INDEX, "pupilsInClass(2, 0)", () -> x.pupilsInClass(2, 0));
        Check.due(Check.INDEX, "pupilsInClass(0, 2)", () -> x.pupilsInClass(0, 2));
        Check.due(Check.INDEX, "pupilInClass(2, 0, 0)", () -> x.pupilInClass(2, 0, 0));
        Check.due(Check.INDEX, "pupilInClass(0, 2, 0)", () -> x.pupilInClass(0, 2, 0));
    }

    // ---- pupils

    private static void promises13And14Pupils() {
        OptionBlockPlanner x = planner(sizes(1), 3, 0);
        for (int pupil = 0; pupil < 12; pupil++) {
            int number = pupil;
            Check.due(number, "addPupil", x::addPupil);
            Check.due(number + 1, "pupilCount", x::pupilCount);
            Check.due(0, "wishCount(" + number + ")", () -> x.wishCount(number));
            Check.due(-1, "reserveOf(" + number + ")", () -> x.reserveOf(number));
            Check.due(-1, "subjectIn(" + number + ", 0)", () -> x.subjectIn(number, 0));
        }
        Check.due(Check.STATE, "a thirteenth pupil", x::addPupil);
        Check.due(12, "pupilCount", x::pupilCount);
    }

    private static void promise15AddWish() {
        OptionBlockPlanner x = planner(sizes(1, 1, 1, 1, 1), 3, 2);
        open(x, 3, 0);
        x.join(0, 3);
        Check.due(1, "addWish(0, 3)", () -> x.addWish(0, 3));
        Check.due(Check.STATE, "addWish(0, 3) again", () -> x.addWish(0, 3));
        x.setReserve(0, 1);
        Check.due(Check.STATE, "addWish(0, 1), the reserve", () -> x.addWish(0, 1));
        Check.due(2, "addWish(0, 0)", () -> x.addWish(0, 0));
        Check.due(3, "addWish(0, 4)", () -> x.addWish(0, 4));
        Check.due(Check.STATE, "a fourth wish", () -> x.addWish(0, 2));
        Check.due(1, "addWish(1, 1)", () -> x.addWish(1, 1));
        dueTimetable("0: 3 - -", x, 0);
        Check.due(Check.INDEX, "addWish(2, 0)", () -> x.addWish(2, 0));
        Check.due(Check.INDEX, "addWish(0, 5) of a pupil with 3 wishes", () -> x.addWish(0, 5));
        for (int number : WRONG_NUMBERS) {
            Check.due(Check.INDEX, "addWish(" + number + ", 0)", () -> x.addWish(number, 0));
            Check.due(Check.INDEX, "addWish(1, " + number + ")", () -> x.addWish(1, number));
        }
    }

    private static void promise16SetReserve() {
        OptionBlockPlanner x = planner(sizes(1, 1, 1, 1), 3, 2);
        open(x, 2, 1);
        x.join(0, 2);
        Check.due(-1, "setReserve(0, 2)", () -> x.setReserve(0, 2));
        Check.due(Check.STATE, "setReserve(0, 2) again", () -> x.setReserve(0, 2));
        Check.due(2, "setReserve(0, 3)", () -> x.setReserve(0, 3));
        wish(x, 0, 2, 1);
        Check.due(Check.STATE, "setReserve(0, 1), a wish", () -> x.setReserve(0, 1));
        Check.due(3, "setReserve(0, 0)", () -> x.setReserve(0, 0));
        Check.due(-1, "reserveOf(1)", () -> x.reserveOf(1));
        dueTimetable("0: - 2 -", x, 0);
        wish(x, 1, 0, 1, 2);
        Check.due(-1, "setReserve(1, 3) of a pupil with 3 wishes", () -> x.setReserve(1, 3));
        Check.due(Check.INDEX, "setReserve(2, 0)", () -> x.setReserve(2, 0));
        Check.due(Check.INDEX, "setReserve(0, 4)", () -> x.setReserve(0, 4));
        for (int number : WRONG_NUMBERS) {
            Check.due(Check.INDEX, "setReserve(" + number + ", 0)", () -> x.setReserve(number, 0));
            Check.due(Check.INDEX, "setReserve(0, " + number + ")", () -> x.setReserve(0, number));
        }
    }

    private static void promises17To19Wishes() {
        OptionBlockPlanner x = planner(sizes(1, 1, 1, 1), 3, 2);
        wish(x, 1, 3, 0, 2);
        x.setReserve(1, 1);
        Check.due(0, "wishCount(0)", () -> x.wishCount(0));
        Check.due(3, "wishCount(1)", () -> x.wishCount(1));
        Check.due(3, "wishAt(1, 0)", () -> x.wishAt(1, 0));
        Check.due(0, "wishAt(1, 1)", () -> x.wishAt(1, 1));
        Check.due(2, "wishAt(1, 2)", () -> x.wishAt(1, 2));
        Check.due(Check.MISSING, "wishAt(1, 3)", () -> x.wishAt(1, 3));
        Check.due(Check.MISSING, "wishAt(0, 0)", () -> x.wishAt(0, 0));
        Check.due(1, "reserveOf(1)", () -> x.reserveOf(1));
        Check.due(-1, "reserveOf(0)", () -> x.reserveOf(0));
        Check.due(Check.INDEX, "wishCount(2)", () -> x.wishCount(2));
        Check.due(Check.INDEX, "wishAt(2, -1)", () -> x.wishAt(2, -1));
        Check.due(Check.INDEX, "reserveOf(2)", () -> x.reserveOf(2));
        for (int number : WRONG_NUMBERS) {
            Check.due(Check.INDEX, "wishCount(" + number + ")", () -> x.wishCount(number));
            Check.due(Check.INDEX, "wishAt(" + number + ", 0)", () -> x.wishAt(number, 0));
            Check.due(Check.MISSING, "wishAt(1, " + number + ")", () -> x.wishAt(1, number));
            Check.due(Check.INDEX, "reserveOf(" + number + ")", () -> x.reserveOf(number));
        }
    }

    private static void promises20And21Timetables() {
        OptionBlockPlanner x = planner(sizes(1, 1, 1), 4, 2);
        open(x, 2, 3);
        open(x, 0, 1);
        x.join(1, 2);
        x.join(1, 0);
        Check.due(-1, "subjectIn(1, 0)", () -> x.subjectIn(1, 0));
        Check.due(0, "subjectIn(1, 1)", () -> x.subjectIn(1, 1));
        Check.due(2, "subjectIn(1, 3)", () -> x.subjectIn(1, 3));
        Check.due(-1, "subjectIn(0, 3)", () -> x.subjectIn(0, 3));
        Check.due(1, "blockOf(1, 0)", () -> x.blockOf(1, 0));
        Check.due(3, "blockOf(1, 2)", () -> x.blockOf(1, 2));
        Check.due(-1, "blockOf(1, 1)", () -> x.blockOf(1, 1));
        Check.due(-1, "blockOf(0, 2)", () -> x.blockOf(0, 2));
        Check.due(Check.INDEX, "subjectIn(2, 0)", () -> x.subjectIn(2, 0));
        Check.due(Check.INDEX, "subjectIn(0, 4)", () -> x.subjectIn(0, 4));
        Check.due(Check.INDEX, "blockOf(2, 0)", () -> x.blockOf(2, 0));
        Check.due(Check.INDEX, "blockOf(0, 3)", () -> x.blockOf(0, 3));
        for (int number : WRONG_NUMBERS) {
            Check.due(Check.INDEX, "subjectIn(" + number + ", 0)", () -> x.subjectIn(number, 0));
            Check.due(Check.INDEX, "subjectIn(0, " + number + ")", () -> x.subjectIn(0, number));
            Check.due(Check.INDEX, "blockOf(" + number + ", 0)", () -> x.blockOf(number, 0));
            Check.due(Check.INDEX, "blockOf(0, " + number + ")", () -> x.blockOf(0, number));
        }
    }

    // ---- placements

    private static void promise22Enrol() {
        OptionBlockPlanner x = planner(sizes(1, 2, 2), 3, 4);
        open(x, 0, 0, 1);
        open(x, 1, 1);
        open(x, 2, 0, 2);
        Check.due(Check.STATE, "enrol(0) without wishes", () -> x.enrol(0));
        x.setReserve(0, 2);
        Check.due(Check.STATE, "enrol(0) with a reserve alone", () -> x.enrol(0));
        wish(x, 0, 0, 1);
        Check.due(6, "enrol(0)", () -> x.enrol(0));
        dueTimetable("0: 0 1 -", x, 0);
        Check.due(Check.STATE, "enrol(0) again", () -> x.enrol(0));
        wish(x, 1, 1, 0, 2);
        x.openClass(0, 2);
        Check.due(7, "enrol(1)", () -> x.enrol(1));
        dueTimetable("1: 2 1 0", x, 1);
        wish(x, 2, 1);
        x.setReserve(2, 2);
        Check.due(0, "enrol(2) with its wish full", () -> x.enrol(2));
        dueTimetable("2: 2! - -", x, 2);
        wish(x, 3, 1);
        Check.due(0, "enrol(3) with nothing left", () -> x.enrol(3));
        dueTimetable("3: - - -", x, 3);
        Check.due(0, "enrol(3) once more", () -> x.enrol(3));
        x.join(3, 0);
        Check.due(Check.STATE, "enrol(3), who attends no wish", () -> x.enrol(3));
        Check.due(Check.INDEX, "enrol(4)", () -> x.enrol(4));
        for (int number : WRONG_NUMBERS) {
            Check.due(Check.INDEX, "enrol(" + number + ")", () -> x.enrol(number));
        }
    }

    private static void promise22EnrolPrefers() {
        // The first wish alone is worth more than both others.
        OptionBlockPlanner a = planner(sizes(1, 1, 1), 2, 1);
        open(a, 0, 0);
        open(a, 1, 0);
        open(a, 2, 1);
        wish(a, 0, 0, 1, 2);
        Check.due(5, "enrol with one block for two wishes", () -> a.enrol(0));
        dueTimetable("0: 0 2", a, 0);
        // The reserve comes before lower blocks, and never costs a wish.
        OptionBlockPlanner b = planner(sizes(1, 1, 1), 3, 1);
        open(b, 0, 0, 1);
        open(b, 2, 0);
        wish(b, 0, 0, 1);
        b.setReserve(0, 2);
        Check.due(4, "enrol with a reserve in the way", () -> b.enrol(0));
        dueTimetable("0: 2! 0 -", b, 0);
        // No reserve where all wishes are placed.
        OptionBlockPlanner c = planner(sizes(1, 1), 3, 1);
        open(c, 0, 1);
        open(c, 1, 0, 2);
        wish(c, 0, 0);
        c.setReserve(0, 1);
        Check.due(4, "enrol with all wishes placed", () -> c.enrol(0));
        dueTimetable("0: - 0 -", c, 0);
        // The lowest rank decides about the blocks, then the next ones, then the reserve.
        OptionBlockPlanner d = planner(sizes(1, 1, 1, 1), 4, 1);
        open(d, 0, 1, 2);
        open(d, 1, 0, 1, 2);
        open(d, 3, 0, 2, 3);
        wish(d, 0, 0, 1, 2);
        d.setReserve(0, 3);
        Check.due(6, "enrol with a choice", () -> d.enrol(0));
        dueTimetable("0: 1 0 3! -", d, 0);
    }

    private static void promise23EnrolAll() {
        OptionBlockPlanner x = planner(sizes(1, 2, 1), 3, 5);
        Check.due(0, "enrolAll without wishes", x::enrolAll);
        open(x, 0, 0);
        open(x, 1, 1);
        open(x, 2, 2);
        wish(x, 1, 0, 1);
        wish(x, 2, 0);
        wish(x, 3, 1);
        wish(x, 4, 2);
        x.join(4, 2);
        Check.due(2, "enrolAll", x::enrolAll);
        dueTimetable("0: - - -", x, 0);
        dueTimetable("1: 0 1 -", x, 1);
        dueTimetable("2: - - -", x, 2);
        dueTimetable("3: - 1 -", x, 3);
        Check.due(0, "enrolAll again", x::enrolAll);
        x.setSize(0, 2);
        Check.due(1, "enrolAll with room for one more", x::enrolAll);
        Check.due(0, "blockOf(2, 0)", () -> x.blockOf(2, 0));
    }

    private static void promise23EnrolsInAscendingOrder() {
        OptionBlockPlanner x = planner(sizes(1), 1, 3);
        open(x, 0, 0);
        wish(x, 2, 0);
        wish(x, 0, 0);
        wish(x, 1, 0);
        Check.due(1, "enrolAll", x::enrolAll);
        dueTimetable("0: 0", x, 0);
        dueTimetable("1: -", x, 1);
        x.withdraw(0);
        Check.due(1, "enrolAll after withdraw", x::enrolAll);
        dueTimetable("0: 0", x, 0);
    }

    private static void promise24Withdraw() {
        OptionBlockPlanner x = planner(sizes(1, 1, 1), 4, 2);
        open(x, 0, 0);
        open(x, 1, 3);
        open(x, 2, 1);
        x.join(0, 0);
        x.join(0, 1);
        x.join(1, 2);
        Check.due(2, "withdraw(0)", () -> x.withdraw(0));
        dueTimetable("0: - - - -", x, 0);
        dueTimetable("1: - 2 - -", x, 1);
        Check.due(Check.STATE, "withdraw(0) again", () -> x.withdraw(0));
        Check.due(0, "pupilsInClass(1, 3)", () -> x.pupilsInClass(1, 3));
        Check.due(1, "withdraw(1)", () -> x.withdraw(1));
        Check.due(Check.INDEX, "withdraw(2)", () -> x.withdraw(2));
        for (int number : WRONG_NUMBERS) {
            Check.due(Check.INDEX, "withdraw(" + number + ")", () -> x.withdraw(number));
        }
    }

    private static void promises25And26BestValue() {
        OptionBlockPlanner x = planner(sizes(1, 1, 1, 1), 2, 3);
        open(x, 0, 0);
        open(x, 1, 0);
        open(x, 2, 0, 1);
        open(x, 3, 0, 1);
        dueValue(0, x, 0);
        x.setReserve(0, 3);
        dueValue(0, x, 0);
        wish(x, 0, 0);
        dueValue(4, x, 0);
        wish(x, 0, 1, 2);
        dueValue(5, x, 0);
        x.join(0, 1);
        dueValue(5, x, 0);
        x.join(1, 0);
        dueValue(3, x, 0);
        wish(x, 1, 0);
        dueValue(4, x, 1);
        x.join(1, 2);
        dueValue(2, x, 0);
        x.setSize(2, 2);
        dueValue(3, x, 0);
        x.quit(0, 1);
        x.join(2, 1);
        dueValue(1, x, 0);
        for (int number : WRONG_NUMBERS) {
            Check.due(Check.INDEX, "bestValue(" + number + ")", () -> x.bestValue(number));
            Check.due(Check.INDEX, "bestValueBySets(" + number + ")", () -> x.bestValueBySets(number));
        }
        Check.due(Check.INDEX, "bestValue(3)", () -> x.bestValue(3));
        Check.due(Check.INDEX, "bestValueBySets(3)", () -> x.bestValueBySets(3));
    }

    private static void dueService(boolean want, OptionBlockPlanner x, int pupil) {
        Check.due(want, "canServe(" + pupil + ")", () -> x.canServe(pupil));
        Check.due(want, "canServeByCounting(" + pupil + ")", () -> x.canServeByCounting(pupil));
    }

    private static void promises27And28CanServe() {
        OptionBlockPlanner x = planner(sizes(1, 1, 1, 1), 3, 3);
        dueService(true, x, 0);
        wish(x, 0, 0);
        dueService(false, x, 0);
        x.openClass(0, 1);
        dueService(true, x, 0);
        wish(x, 0, 1);
        x.openClass(1, 1);
        dueService(false, x, 0);
        x.openClass(1, 2);
        dueService(true, x, 0);
        wish(x, 0, 2);
        open(x, 2, 1, 2);
        dueService(false, x, 0);
        x.openClass(2, 0);
        dueService(true, x, 0);
        x.join(1, 0);
        dueService(true, x, 0);
        x.join(0, 1);
        dueService(true, x, 0);
        wish(x, 2, 3);
        open(x, 3, 0);
        dueService(true, x, 2);
        x.addWish(2, 0);
        x.addWish(2, 1);
        dueService(true, x, 2);
        x.closeClass(1, 2);
        dueService(false, x, 2);
        OptionBlockPlanner one = planner(sizes(9, 9), 1, 1);
        open(one, 0, 0);
        open(one, 1, 0);
        wish(one, 0, 0, 1);
        dueService(false, one, 0);
        for (int number : WRONG_NUMBERS) {
            Check.due(Check.INDEX, "canServe(" + number + ")", () -> x.canServe(number));
            Check.due(Check.INDEX, "canServeByCounting(" + number + ")", () -> x.canServeByCounting(number));
        }
        Check.due(Check.INDEX, "canServe(3)", () -> x.canServe(3));
        Check.due(Check.INDEX, "canServeByCounting(3)", () -> x.canServeByCounting(3));
    }

    /** The second versions ask for no call of the first ones before. */
    private static void promises26And28InOtherOrder() {
        OptionBlockPlanner x = planner(sizes(1, 1, 1), 2, 3);
        open(x, 0, 0);
        open(x, 1, 0, 1);
        wish(x, 0, 0, 1);
        wish(x, 1, 2, 1);
        Check.due(6, "bestValueBySets(0)", () -> x.bestValueBySets(0));
        Check.due(2, "bestValueBySets(1)", () -> x.bestValueBySets(1));
        Check.due(0, "bestValueBySets(2)", () -> x.bestValueBySets(2));
        Check.due(6, "bestValue(0)", () -> x.bestValue(0));
        Check.due(true, "canServeByCounting(0)", () -> x.canServeByCounting(0));
        Check.due(false, "canServeByCounting(1)", () -> x.canServeByCounting(1));
        Check.due(true, "canServeByCounting(2)", () -> x.canServeByCounting(2));
        Check.due(true, "canServe(0)", () -> x.canServe(0));
    }

    private static void promise29ServedCount() {
        OptionBlockPlanner x = planner(sizes(3, 3), 2, 3);
        open(x, 0, 0);
        open(x, 1, 1);
        x.join(0, 0);
        Check.due(0, "servedCount without wishes", x::servedCount);
        wish(x, 0, 0);
        Check.due(1, "servedCount", x::servedCount);
        wish(x, 0, 1);
        Check.due(0, "servedCount with a wish more", x::servedCount);
        x.join(0, 1);
        wish(x, 1, 1);
        x.setReserve(1, 0);
        x.join(1, 0);
        Check.due(1, "servedCount with a reserve attended", x::servedCount);
        x.join(1, 1);
        Check.due(2, "servedCount with both", x::servedCount);
    }

    private static void promise30MeanClassSize() {
        OptionBlockPlanner x = planner(sizes(9, 9), 3, 3);
        Check.due(Check.ARITHMETIC, "meanClassSize", x::meanClassSize);
        open(x, 0, 0, 1);
        Check.due(0.0, "meanClassSize of empty classes", x::meanClassSize);
        open(x, 1, 2);
        x.join(0, 0);
        Check.due(1.0 / 3.0, "meanClassSize of a pupil", x::meanClassSize);
        x.join(0, 1);
        x.join(1, 1);
        x.join(2, 1);
        Check.due(4.0 / 3.0, "meanClassSize of all", x::meanClassSize);
        x.closeClass(0, 1);
        Check.due(2.0, "meanClassSize of two classes", x::meanClassSize);
        x.quit(0, 0);
        x.closeClass(0, 0);
        Check.due(3.0, "meanClassSize of one class", x::meanClassSize);
    }

    // ---- late changes

    private static void promises31And32Moves() {
        OptionBlockPlanner x = longChain();
        dueMoves(Check.MISSING, x, 4, 0);
        x.quit(3, 0);
        dueMoves(3, x, 4, 0);
        x.setSize(0, 2);
        dueMoves(0, x, 4, 0);
        dueMoves(Check.STATE, x, 0, 0);
        dueMoves(Check.INDEX, x, 5, 0);
        dueMoves(Check.INDEX, x, 0, 5);
        for (int number : WRONG_NUMBERS) {
            dueMoves(Check.INDEX, x, number, 0);
            dueMoves(Check.INDEX, x, 0, number);
        }
        // A class without room, and none of its pupils is free elsewhere.
        OptionBlockPlanner y = planner(sizes(1, 9), 2, 2);
        open(y, 0, 0, 1);
        open(y, 1, 1, 0);
        dueMoves(0, y, 0, 0);
        y.join(0, 0);
        y.join(0, 1);
        y.join(1, 1);
        Check.due(0, "blockOf(1, 1)", () -> y.blockOf(1, 1));
        dueMoves(0, y, 1, 0);
        y.closeClass(0, 1);
        dueMoves(Check.MISSING, y, 1, 0);
        y.withdraw(0);
        y.withdraw(1);
        y.closeClass(0, 0);
        dueMoves(Check.MISSING, y, 1, 0);
    }

    private static void promises31To33MoveIntoTheFirstBlock() {
        OptionBlockPlanner x = planner(sizes(1, 9), 2, 2);
        open(x, 0, 1);
        open(x, 1, 0);
        x.join(0, 0);
        x.join(1, 1);
        open(x, 0, 0);
        dueMoves(1, x, 1, 0);
        Check.due(1, "join by a move into block 0", () -> x.join(1, 0));
        Check.due(0, "chainBlock(0)", () -> x.chainBlock(0));
        dueTimetable("0: 0 -", x, 0);
        dueTimetable("1: 1 0", x, 1);
    }

    private static void promise33Join() {
        OptionBlockPlanner x = longChain();
        Check.due(Check.REFUSED, "join(4, 0)", () -> x.join(4, 0));
        Check.due(3, "refusalReason", x::refusalReason);
        dueTimetable("4: - 2 3 4", x, 4);
        x.quit(3, 0);
        Check.due(3, "join(4, 0)", () -> x.join(4, 0));
        dueTimetable("0: - 0 3 4", x, 0);
        dueTimetable("1: 1 - 0 4", x, 1);
        dueTimetable("2: 1 2 - 0", x, 2);
        dueTimetable("3: 1 2 3 -", x, 3);
        dueTimetable("4: 0 2 3 4", x, 4);
        Check.due(Check.STATE, "join(4, 0) again", () -> x.join(4, 0));
        Check.due(Check.INDEX, "join(5, 0)", () -> x.join(5, 0));
        Check.due(Check.INDEX, "join(0, 5)", () -> x.join(0, 5));
        for (int number : WRONG_NUMBERS) {
            Check.due(Check.INDEX, "join(" + number + ", 0)", () -> x.join(number, 0));
            Check.due(Check.INDEX, "join(0, " + number + ")", () -> x.join(0, number));
        }
    }

    private static void promise33JoinPrefers() {
        // Fewer moves come before a lower entry.
        OptionBlockPlanner a = planner(sizes(1), 3, 2);
        open(a, 0, 0, 2);
        a.join(0, 0);
        Check.due(0, "join into the block with room", () -> a.join(1, 0));
        Check.due(2, "blockOf(1, 0)", () -> a.blockOf(1, 0));
        // The lowest entry, then the lowest block, then the lowest pupil.
        OptionBlockPlanner b = planner(sizes(2, 9), 4, 6);
        open(b, 0, 0, 1, 2, 3);
        open(b, 1, 2, 3);
        for (int pupil : new int[] {5, 4, 3, 2}) {
            b.join(pupil, 0);
        }
        dueTimetable("4: 0 - - -", b, 4);
        dueTimetable("3: - 0 - -", b, 3);
        b.join(0, 1);
        b.quit(0, 1);
        b.closeClass(1, 2);
        b.openClass(1, 2);
        b.join(0, 1);
        Check.due(2, "blockOf(0, 1)", () -> b.blockOf(0, 1));
        b.openClass(1, 1);
        // Pupil 0 has block 2; keep it from block 3 as well, so that the entry is 0 or 1.
        b.addSubject(9);
        b.openClass(2, 3);
        b.join(0, 2);
        Check.due(1, "join by a move", () -> b.join(0, 0));
        Check.due(0, "blockOf(0, 0)", () -> b.blockOf(0, 0));
        Check.due(4, "chainPupil(0)", () -> b.chainPupil(0));
        Check.due(2, "chainBlock(0)", () -> b.chainBlock(0));
        dueTimetable("4: - - 0 -", b, 4);
        dueTimetable("5: 0 - - -", b, 5);
    }

    private static void promise34Quit() {
        OptionBlockPlanner x = planner(sizes(1, 1), 3, 2);
        open(x, 0, 2);
        open(x, 1, 1);
        x.join(0, 0);
        x.join(0, 1);
        Check.due(2, "quit(0, 0)", () -> x.quit(0, 0));
        dueTimetable("0: - 1 -", x, 0);
        Check.due(Check.STATE, "quit(0, 0) again", () -> x.quit(0, 0));
        Check.due(1, "quit(0, 1)", () -> x.quit(0, 1));
        Check.due(Check.INDEX, "quit(2, 0)", () -> x.quit(2, 0));
        Check.due(Check.INDEX, "quit(0, 2)", () -> x.quit(0, 2));
        for (int number : WRONG_NUMBERS) {
            Check.due(Check.INDEX, "quit(" + number + ", 0)", () -> x.quit(number, 0));
            Check.due(Check.INDEX, "quit(0, " + number + ")", () -> x.quit(0, number));
        }
    }

    private static void promise35Change() {
        OptionBlockPlanner x = planner(sizes(1, 1, 1), 3, 3);
        open(x, 0, 0);
        open(x, 1, 0, 1);
        x.join(0, 0);
        x.join(1, 1);
        Check.due(0, "blockOf(1, 1)", () -> x.blockOf(1, 1));
        // Free again in block 0 after quitting, pupil 0 comes in there by a move.
        x.join(2, 1);
        Check.due(Check.REFUSED, "change(0, 0, 1)", () -> x.change(0, 0, 1));
        Check.due(3, "refusalReason", x::refusalReason);
        dueTimetable("0: 0 - -", x, 0);
        x.quit(2, 1);
        Check.due(Check.REFUSED, "change(0, 0, 2)", () -> x.change(0, 0, 2));
        Check.due(1, "refusalReason", x::refusalReason);
        x.addSubject(9);
        x.openClass(3, 1);
        x.join(0, 3);
        Check.due(1, "change(0, 0, 1)", () -> x.change(0, 0, 1));
        dueTimetable("0: 1 3 -", x, 0);
        dueTimetable("1: - 1 -", x, 1);
        Check.due(1, "chainMoves", x::chainMoves);
        Check.due(Check.STATE, "change(0, 0, 2), not attended", () -> x.change(0, 0, 2));
        Check.due(Check.STATE, "change(0, 1, 3), attended", () -> x.change(0, 1, 3));
        Check.due(Check.STATE, "change(0, 1, 1)", () -> x.change(0, 1, 1));
        Check.due(Check.STATE, "change(0, 0, 0)", () -> x.change(0, 0, 0));
        Check.due(Check.INDEX, "change(3, 0, 1)", () -> x.change(3, 0, 1));
        Check.due(Check.INDEX, "change(0, 4, 1)", () -> x.change(0, 4, 1));
        Check.due(Check.INDEX, "change(0, 1, 4)", () -> x.change(0, 1, 4));
        for (int number : WRONG_NUMBERS) {
            Check.due(Check.INDEX, "change(" + number + ", 1, 0)", () -> x.change(number, 1, 0));
            Check.due(Check.INDEX, "change(0, " + number + ", 0)", () -> x.change(0, number, 0));
            Check.due(Check.INDEX, "change(0, 1, " + number + ")", () -> x.change(0, 1, number));
        }
    }

    private static void promise36RefusalReason() {
        OptionBlockPlanner x = planner(sizes(1, 1, 1), 2, 3);
        Check.due(Check.REFUSED, "join(0, 0)", () -> x.join(0, 0));
        Check.due(1, "refusalReason", x::refusalReason);
        open(x, 0, 0);
        open(x, 1, 0);
        open(x, 2, 1);
        x.join(0, 0);
        Check.due(Check.REFUSED, "join(1, 0)", () -> x.join(1, 0));
        Check.due(3, "refusalReason", x::refusalReason);
        Check.due(Check.REFUSED, "join(0, 1)", () -> x.join(0, 1));
        Check.due(2, "refusalReason", x::refusalReason);
        x.join(0, 2);
        Check.due(Check.STATE, "join(0, 2) again", () -> x.join(0, 2));
        Check.due(2, "refusalReason after other calls", x::refusalReason);
        x.undo();
        Check.due(2, "refusalReason after undo", x::refusalReason);
        x.save();
        x.join(1, 1);
        Check.due(Check.REFUSED, "change(1, 1, 0)", () -> x.change(1, 1, 0));
        Check.due(3, "refusalReason", x::refusalReason);
        x.restore();
        Check.due(3, "refusalReason after restore", x::refusalReason);
        Check.due(Check.MISSING, "movesFor(1, 0)", () -> x.movesFor(0, 1));
        Check.due(3, "refusalReason after movesFor", x::refusalReason);
    }

    private static void promises37To39Chain() {
        OptionBlockPlanner x = longChain();
        Check.due(0, "chainMoves of a join without moves", x::chainMoves);
        Check.due(Check.MISSING, "chainPupil(0)", () -> x.chainPupil(0));
        Check.due(Check.MISSING, "chainBlock(0)", () -> x.chainBlock(0));
        x.quit(3, 0);
        x.join(4, 0);
        Check.due(3, "chainMoves", x::chainMoves);
        for (int move = 0; move < 3; move++) {
            int number = move;
            Check.due(number, "chainPupil(" + move + ")", () -> x.chainPupil(number));
            Check.due(number + 1, "chainBlock(" + move + ")", () -> x.chainBlock(number));
        }
        for (int move : new int[] {-1, 3, 4, Integer.MIN_VALUE, Integer.MAX_VALUE}) {
            Check.due(Check.MISSING, "chainPupil(" + move + ")", () -> x.chainPupil(move));
            Check.due(Check.MISSING, "chainBlock(" + move + ")", () -> x.chainBlock(move));
        }
        Check.due(Check.REFUSED, "join(3, 0)", () -> x.join(3, 0));
        Check.due(3, "chainMoves after a refusal", x::chainMoves);
        x.quit(4, 0);
        Check.due(3, "chainMoves after a quit", x::chainMoves);
        x.undo();
        x.undo();
        Check.due(0, "chainMoves after undo", x::chainMoves);
        OptionBlockPlanner y = new OptionBlockPlanner();
        for (int move : new int[] {-1, 0, 1}) {
            Check.due(Check.MISSING, "chainPupil(" + move + ") without a chain", () -> y.chainPupil(move));
            Check.due(Check.MISSING, "chainBlock(" + move + ") without a chain", () -> y.chainBlock(move));
        }
        Check.due(Check.MISSING, "chainMoves without a chain", y::chainMoves);
    }

    // ---- clashes and arrangements

    private static void promise40CommonWishes() {
        OptionBlockPlanner x = planner(sizes(1, 1, 1), 3, 3);
        wish(x, 0, 2, 0);
        wish(x, 1, 0, 1, 2);
        wish(x, 2, 0);
        x.setReserve(2, 2);
        Check.due(2, "commonWishes(0, 2)", () -> x.commonWishes(0, 2));
        Check.due(2, "commonWishes(2, 0)", () -> x.commonWishes(2, 0));
        Check.due(1, "commonWishes(0, 1)", () -> x.commonWishes(0, 1));
        duePairRules("commonWishes", x, pair -> x.commonWishes(pair[0], pair[1]));
    }

    private static void duePairRules(String name, OptionBlockPlanner x, Consumer<int[]> call) {
        int count = x.subjectCount();
        int[][] wrong = {{0, count}, {count, 0}, {-1, 0}, {0, -1}, {-1, -1}, {count, count},
            {Integer.MAX_VALUE, 0}, {0, Integer.MIN_VALUE}};
        for (int[] pair : wrong) {
            Check.due(Check.INDEX, name + "(" + pair[0] + ", " + pair[1] + ")", () -> {
                call.accept(pair);
                return "nothing";
            });
        }
        for (int subject = 0; subject < count; subject++) {
            int[] pair = {subject, subject};
            Check.due(Check.ARGUMENT, name + " of the same subject", () -> {
                call.accept(pair);
                return "nothing";
            });
        }
    }

    private static void dueClash(boolean want, OptionBlockPlanner x, int subject, int other) {
        Check.due(want, "doClash(" + subject + ", " + other + ")", () -> x.doClash(subject, other));
        Check.due(want, "doClash(" + other + ", " + subject + ")", () -> x.doClash(other, subject));
    }

    private static void promise41DoClash() {
        OptionBlockPlanner x = planner(sizes(1, 1, 1), 3, 0);
        dueClash(true, x, 0, 1);
        x.openClass(0, 1);
        dueClash(true, x, 0, 1);
        x.openClass(1, 1);
        dueClash(true, x, 0, 1);
        x.openClass(1, 2);
        dueClash(false, x, 0, 1);
        x.closeClass(1, 1);
        dueClash(false, x, 0, 1);
        open(x, 2, 0, 1, 2);
        dueClash(false, x, 2, 0);
        duePairRules("doClash", x, pair -> x.doClash(pair[0], pair[1]));
    }

    private static void promise42ClashCount() {
        OptionBlockPlanner x = planner(sizes(1, 1, 1), 3, 3);
        wish(x, 0, 0, 1, 2);
        wish(x, 1, 1, 2);
        wish(x, 2, 0);
        x.setReserve(2, 1);
        Check.due(4, "clashCount with no class open", x::clashCount);
        x.openClass(1, 0);
        x.openClass(2, 1);
        Check.due(2, "clashCount", x::clashCount);
        x.openClass(0, 1);
        Check.due(1, "clashCount", x::clashCount);
        x.openClass(0, 0);
        Check.due(0, "clashCount", x::clashCount);
    }

    private static void promises43And44LeastClashes() {
        OptionBlockPlanner x = planner(sizes(), 1, 5);
        dueLeast(0, x);
        x.addSubject(1);
        dueLeast(0, x);
        for (int subject = 1; subject < 7; subject++) {
            x.addSubject(1);
        }
        wish(x, 0, 0, 1, 2);
        wish(x, 1, 1, 2, 3);
        wish(x, 2, 2, 0, 3);
        wish(x, 3, 4, 5, 6);
        wish(x, 4, 6, 5);
        dueLeast(13, x);
        x.setBlockCount(2);
        // The pairs of 0 to 3 have 2, 2, 1, 3, 1, 2 common wishes (01, 02, 03, 12, 13, 23) less what is apart.
        Check.due(x.leastClashesByTrial(), "leastClashes in 2 blocks", x::leastClashes);
        dueLeast(4, x);
        x.setBlockCount(3);
        dueLeast(1, x);
        x.setBlockCount(4);
        dueLeast(0, x);
    }

    /** The second version asks for no call of the first one before. */
    private static void promise44InOtherOrder() {
        OptionBlockPlanner x = planner(sizes(1, 1), 1, 2);
        wish(x, 0, 0, 1);
        Check.due(1, "leastClashesByTrial", x::leastClashesByTrial);
        wish(x, 1, 1, 0);
        Check.due(2, "leastClashesByTrial of two pupils", x::leastClashesByTrial);
        Check.due(2, "leastClashes", x::leastClashes);
        x.undo();
        Check.due(1, "leastClashesByTrial after undo", x::leastClashesByTrial);
        x.setBlockCount(2);
        Check.due(0, "leastClashesByTrial in two blocks", x::leastClashesByTrial);
    }

    private static void promise45Arrange() {
        OptionBlockPlanner x = planner(sizes(1, 1, 1, 1), 3, 3);
        open(x, 0, 1, 2);
        open(x, 3, 2);
        Check.due(0, "arrange without wishes", x::arrange);
        Check.due("0 0 0 0", "the arrangement", () -> openBlocks(x));
        wish(x, 0, 0, 1, 3);
        wish(x, 1, 0, 3);
        wish(x, 2, 3, 2);
        Check.due(0, "arrange", x::arrange);
        Check.due("0 1 0 2", "the arrangement", () -> openBlocks(x));
        x.setBlockCount(3);
        x.join(2, 1);
        Check.due(Check.STATE, "arrange with a pupil in a class", x::arrange);
        x.quit(2, 1);
        open(x, 0, 1, 2);
        x.closeClass(3, 2);
        x.setBlockCount(3);
        Check.due(0, "arrange again", x::arrange);
        Check.due("0 1 0 2", "the arrangement", () -> openBlocks(x));
        OptionBlockPlanner y = planner(sizes(1, 1, 1), 2, 2);
        wish(y, 0, 0, 1, 2);
        wish(y, 1, 0, 2);
        Check.due(1, "arrange in two blocks", y::arrange);
        Check.due("0 0 1", "the arrangement", () -> openBlocks(y));
        OptionBlockPlanner none = new OptionBlockPlanner();
        Check.due(0, "arrange without subjects", none::arrange);
        Check.due(0, "undo of arrange", none::undo);
    }

    /** All pupils have the same three wishes, and these have to share the only block. */
    private static void promises43To45GreatestClashes() {
        OptionBlockPlanner x = planner(sizes(1, 1, 1, 1, 1, 1, 1), 4, 12);
        for (int pupil = 0; pupil < 12; pupil++) {
            wish(x, pupil, 4, 5, 6);
        }
        dueLeast(0, x);
        Check.due("0 0 0 0 0 1 2", "the arrangement in four blocks", () -> x.arrange() == 0 ? openBlocks(x) : "");
        for (int subject : new int[] {5, 6}) {
            x.closeClass(subject, subject - 4);
        }
        x.setBlockCount(2);
        dueLeast(12, x);
        Check.due(12, "arrange in two blocks", x::arrange);
        Check.due("0 0 0 0 0 0 1", "the arrangement in two blocks", () -> openBlocks(x));
        x.closeClass(6, 1);
        x.setBlockCount(1);
        dueLeast(36, x);
        Check.due(36, "arrange in one block", x::arrange);
        Check.due("0 0 0 0 0 0 0", "the arrangement in one block", () -> openBlocks(x));
        Check.due(36, "clashCount", x::clashCount);
    }

    // ---- line and programs

    private static void promises46And47Line() {
        OptionBlockPlanner x = planner(sizes(1, 9, 2), 4, 12);
        open(x, 0, 3);
        open(x, 1, 2);
        open(x, 2, 0);
        x.setReserve(3, 0);
        x.join(3, 0);
        x.join(3, 2);
        dueTimetable("3: 2 - - 0!", x, 3);
        Check.due(11, "writeTimetable(3)", () -> x.writeTimetable(3));
        Check.due('3', "lineAt(0)", () -> x.lineAt(0));
        Check.due('!', "lineAt(10)", () -> x.lineAt(10));
        Check.due(Check.INDEX, "lineAt(11)", () -> x.lineAt(11));
        x.join(11, 1);
        x.setReserve(11, 1);
        dueTimetable("11: - - 1! -", x, 11);
        x.setReserve(11, 2);
        dueTimetable("11: - - 1 -", x, 11);
        dueTimetable("0: - - - -", x, 0);
        for (int number : new int[] {-1, 10, Integer.MIN_VALUE, Integer.MAX_VALUE}) {
            Check.due(Check.INDEX, "lineAt(" + number + ")", () -> x.lineAt(number));
        }
        for (int number : WRONG_NUMBERS) {
            Check.due(Check.INDEX, "writeTimetable(" + number + ")", () -> x.writeTimetable(number));
        }
        Check.due(Check.INDEX, "writeTimetable(12)", () -> x.writeTimetable(12));
        Check.due('0', "lineAt(0) after wrong calls", () -> x.lineAt(0));
        x.undo();
        Check.due('-', "lineAt(9) after undo", () -> x.lineAt(9));
        OptionBlockPlanner y = planner(sizes(1), 1, 1);
        dueTimetable("0: -", y, 0);
    }

    private static void promise48Type() {
        OptionBlockPlanner x = new OptionBlockPlanner();
        char[] wrong = {(char) 31, (char) 127, (char) 0, (char) 255, (char) 65535};
        for (char character : wrong) {
            Check.due(Check.ARGUMENT, "type of the character " + (int) character, () -> x.type(character));
        }
        Check.due(1, "type of a blank", () -> x.type(' '));
        Check.due(2, "type of a tilde", () -> x.type('~'));
        for (int length = 3; length <= 60; length++) {
            Check.due(length, "type", () -> x.type('a'));
        }
        Check.due(Check.STATE, "a character too many", () -> x.type('a'));
        Check.due(Check.ARGUMENT, "a wrong character too many", () -> x.type((char) 127));
        Check.due(Check.ARGUMENT, "execute", x::execute);
        Check.due(1, "type into the empty buffer", () -> x.type('a'));
        x.save();
        x.addPupil();
        x.undo();
        x.restore();
        Check.due(2, "type after undo and restore", () -> x.type('a'));
    }

    private static void promise49Execute() {
        OptionBlockPlanner x = new OptionBlockPlanner();
        Check.due(4, "a program", () -> run(x, "subject 2;subject 9;pupil;blocks 4"));
        Check.due(2, "subjectCount", x::subjectCount);
        Check.due(9, "sizeOf(1)", () -> x.sizeOf(1));
        Check.due(1, "pupilCount", x::pupilCount);
        Check.due(4, "blockCount", x::blockCount);
        Check.due(Check.ARGUMENT, "execute of the emptied buffer", x::execute);
        Check.due(0, "its error position", x::errorPosition);
        Check.due(10, "ten commands", () -> run(x, "pupil;pupil;pupil;pupil;pupil;pupil;pupil;pupil;pupil;pupil"));
        Check.due(11, "pupilCount", x::pupilCount);
        Check.due(1, "undo of a program", x::undo);
        Check.due(1, "pupilCount", x::pupilCount);
        Check.due(0, "undo of the first program", x::undo);
        Check.due(0, "subjectCount", x::subjectCount);
        Check.due(3, "blockCount", x::blockCount);
    }

    private static void promise49ExecuteFails() {
        OptionBlockPlanner x = new OptionBlockPlanner();
        x.addPupil();
        Check.due(Check.STATE, "a program that fails", () -> run(x, "subject 2;blocks 4;pupil;enrol 7;pupil"));
        Check.due(3, "failedCommand", x::failedCommand);
        Check.due(1, "failureKind", x::failureKind);
        Check.due(0, "subjectCount", x::subjectCount);
        Check.due(1, "pupilCount", x::pupilCount);
        Check.due(3, "blockCount", x::blockCount);
        Check.due(Check.ARGUMENT, "execute of the emptied buffer", x::execute);
        Check.due(3, "failedCommand after a malformed program", x::failedCommand);
        Check.due(Check.MISSING, "refusalReason", x::refusalReason);
        Check.due(Check.STATE, "a refused join", () -> run(x, "subject 1;open 0 0;join 0 0;pupil;join 1 0"));
        Check.due(4, "failedCommand", x::failedCommand);
        Check.due(4, "failureKind", x::failureKind);
        Check.due(3, "refusalReason", x::refusalReason);
        Check.due(Check.MISSING, "chainMoves, undone with the program", x::chainMoves);
        Check.due(Check.STATE, "a refused change", () -> run(x, "subject 1;subject 1;open 0 0;join 0 0;change 0 0 1"));
        Check.due(1, "refusalReason", x::refusalReason);
        Check.due(0, "undo reaches what was before the programs", x::undo);
        Check.due(0, "pupilCount", x::pupilCount);
        Check.due(Check.ARGUMENT, "a malformed program", () -> run(x, "pupil;pupils"));
        Check.due(0, "pupilCount", x::pupilCount);
    }

    private static void promise49Commands() {
        OptionBlockPlanner x = new OptionBlockPlanner();
        Check.due(7, "a first program", () -> run(x, "subject 1;subject 2;blocks 2;pupil;pupil;open 0 1;open 1 0"));
        Check.due(6, "a second program", () -> run(x, "close 1 0;open 1 1;wish 00 0;wish 01 1;wish 1 0;enrol 0"));
        dueTimetable("0: - 0", x, 0);
        Check.due(1, "wishAt(1, 0)", () -> x.wishAt(1, 0));
        Check.due(false, "isOpen(1, 0)", () -> x.isOpen(1, 0));
        Check.due(3, "a third program", () -> run(x, "reserve 0 1;join 01 1;change 00 0 1"));
        dueTimetable("0: - 1!", x, 0);
        dueTimetable("1: - 1", x, 1);
        Check.due(3, "a fourth program", () -> run(x, "quit 0 1;quit 1 1;arrange"));
        Check.due("0 1", "the arrangement", () -> openBlocks(x));
        Check.due(3, "undo", x::undo);
        dueTimetable("0: - 1!", x, 0);
        OptionBlockPlanner y = planner(sizes(1), 3, 12);
        Check.due(1, "a pupil of two digits", () -> run(y, "wish 11 0"));
        Check.due(1, "wishCount(11)", () -> y.wishCount(11));
        Check.due(0, "wishCount(1)", () -> y.wishCount(1));
        Check.due(Check.STATE, "a pupil who is not there", () -> run(y, "wish 12 0"));
        Check.due(1, "failureKind", y::failureKind);
    }

    private static void promise50ErrorPosition() {
        dueMalformed(0, "");
        dueMalformed(0, " ");
        dueMalformed(0, ";");
        dueMalformed(0, "x");
        dueMalformed(0, "Pupil");
        dueMalformed(5, "pupil ");
        dueMalformed(6, "pupil;");
        dueMalformed(6, "pupil; pupil");
        dueMalformed(4, "pupi");
        dueMalformed(5, "pupils");
        dueMalformed(1, "c");
        dueMalformed(1, "cx");
        dueMalformed(2, "clx");
        dueMalformed(2, "chx");
        dueMalformed(5, "close");
        dueAllTooEarly("change 12 3 4");
        dueAllTooEarly("change 0 1 2");
        dueAllTooEarly("arrange");
        dueAllTooEarly("reserve 1 2");
        dueMalformed(9, "subject 12");
        dueMalformed(8, "subject x");
        dueMalformed(8, "subject -1");
        dueMalformed(8, "subject ");
        dueMalformed(7, "subject");
        dueMalformed(7, "subject;");
        dueMalformed(6, "open 12 3");
        dueMalformed(8, "open 1 23");
        dueMalformed(7, "wish 123 0");
        dueMalformed(7, "wish 12;");
        dueMalformed(6, "wish 1");
        dueMalformed(7, "wish 1 ");
        dueMalformed(6, "wish 1;");
        dueMalformed(8, "enrol 12 3");
        dueMalformed(8, "enrol 123");
        dueMalformed(7, "enrol 1 ");
        dueMalformed(7, "arrange 1");
        dueMalformed(6, "arrang");
        dueMalformed(8, "quit 1 23");
        dueMalformed(11, "reserve 1 23");
        dueMalformed(60, "pupil;pupil;pupil;pupil;pupil;pupil;pupil;pupil;pupil;pupil;");
        OptionBlockPlanner x = new OptionBlockPlanner();
        Check.due(1, "a program", () -> run(x, "pupil"));
        Check.due(Check.MISSING, "errorPosition after a program", x::errorPosition);
        run(x, "pupil;y");
        Check.due(6, "errorPosition", x::errorPosition);
        run(x, "pupil");
        run(x, "enrol 9");
        x.undo();
        Check.due(6, "errorPosition after other programs", x::errorPosition);
    }

    private static void dueAllTooEarly(String command) {
        for (int length = 0; length < command.length(); length++) {
            dueMalformed(length, command.substring(0, length));
            dueMalformed(length + 6, "pupil;" + command.substring(0, length));
        }
    }

    private static void promises51And52Failures() {
        OptionBlockPlanner x = planner(sizes(1), 3, 1);
        Object[][] programs = {
            {"pupil;open 1 0", 1, 1}, {"subject 0", 0, 2}, {"blocks 5", 0, 2}, {"open 0 3", 0, 1},
            {"close 0 0", 0, 3}, {"wish 1 0", 0, 1}, {"wish 0 0;wish 0 0", 1, 3}, {"reserve 0 9", 0, 1},
            {"enrol 0", 0, 3}, {"join 0 0", 0, 4}, {"quit 0 0", 0, 3}, {"change 0 0 0", 0, 3},
            {"open 0 0;join 0 0;arrange", 2, 3}, {"open 0 2;blocks 2", 1, 3},
            {"subject 1;open 1 0;join 0 1;change 0 1 0", 3, 4},
        };
        for (Object[] program : programs) {
            Check.due(Check.STATE, "'" + program[0] + "'", () -> run(x, (String) program[0]));
            Check.due(program[1], "failedCommand of '" + program[0] + "'", x::failedCommand);
            Check.due(program[2], "failureKind of '" + program[0] + "'", x::failureKind);
            Check.due(1, "subjectCount after '" + program[0] + "'", x::subjectCount);
        }
        x.save();
        x.undo();
        x.restore();
        run(x, "pupil");
        Check.due(3, "failedCommand after a program", x::failedCommand);
        Check.due(4, "failureKind after a program", x::failureKind);
        OptionBlockPlanner y = new OptionBlockPlanner();
        run(y, "pupil;");
        Check.due(Check.MISSING, "failedCommand after a malformed program", y::failedCommand);
        Check.due(Check.MISSING, "failureKind after a malformed program", y::failureKind);
    }

    // ---- undo and snapshots

    private static void promise53Undo() {
        OptionBlockPlanner x = new OptionBlockPlanner();
        for (int pupil = 0; pupil < 10; pupil++) {
            x.addPupil();
        }
        for (int left = 7; left >= 0; left--) {
            Check.due(left, "undo", x::undo);
            Check.due(left + 2, "pupilCount", x::pupilCount);
        }
        Check.due(Check.STATE, "undo with nothing left", x::undo);
        Check.due(2, "pupilCount", x::pupilCount);
        x.addPupil();
        x.addPupil();
        Check.due(1, "undo", x::undo);
        x.addSubject(3);
        Check.due(1, "undo of addSubject", x::undo);
        Check.due(0, "undo", x::undo);
        Check.due(2, "pupilCount", x::pupilCount);
        Check.due(0, "subjectCount", x::subjectCount);
    }

    private static void dueUndone(OptionBlockPlanner x, String name, Consumer<OptionBlockPlanner> modification) {
        String before = stateOf(x);
        modification.accept(x);
        String after = stateOf(x);
        x.addPupil();
        x.undo();
        Check.due(after, "the state after " + name + " and an undone call", () -> stateOf(x));
        x.undo();
        Check.due(before, "the state after " + name + " and undo", () -> stateOf(x));
        modification.accept(x);
        Check.due(after, "the state after " + name + " once more", () -> stateOf(x));
    }

    private static void promise53EachModification() {
        OptionBlockPlanner x = planner(sizes(1, 2), 3, 2);
        dueUndone(x, "addSubject", y -> y.addSubject(5));
        dueUndone(x, "setSize", y -> y.setSize(0, 1));
        dueUndone(x, "setSize", y -> y.setSize(1, 3));
        dueUndone(x, "setBlockCount", y -> y.setBlockCount(4));
        dueUndone(x, "openClass", y -> y.openClass(0, 0));
        dueUndone(x, "openClass", y -> y.openClass(0, 2));
        dueUndone(x, "openClass", y -> y.openClass(1, 0));
        dueUndone(x, "openClass", y -> y.openClass(1, 1));
        dueUndone(x, "closeClass", y -> y.closeClass(1, 0));
        dueUndone(x, "addPupil", y -> y.addPupil());
        dueUndone(x, "addWish", y -> y.addWish(0, 0));
        dueUndone(x, "setReserve", y -> y.setReserve(1, 2));
        dueUndone(x, "setReserve", y -> y.setReserve(1, 0));
        dueUndone(x, "enrol", y -> y.enrol(0));
        dueUndone(x, "addWish", y -> y.addWish(2, 1));
        dueUndone(x, "enrolAll", y -> y.enrolAll());
        dueUndone(x, "enrolAll that changes nothing", y -> y.enrolAll());
        dueUndone(x, "join", y -> y.join(1, 1));
        dueUndone(x, "openClass", y -> y.openClass(2, 2));
        dueUndone(x, "join", y -> y.join(1, 2));
        dueUndone(x, "join by a move", y -> y.join(1, 0));
        dueUndone(x, "quit", y -> y.quit(1, 1));
        dueUndone(x, "openClass", y -> y.openClass(1, 3));
        dueUndone(x, "change", y -> y.change(1, 0, 1));
        dueUndone(x, "withdraw", y -> y.withdraw(1));
        x.withdraw(0);
        x.withdraw(2);
        dueUndone(x, "arrange", y -> y.arrange());
        dueUndone(x, "execute", y -> run(y, "pupil;subject 3;blocks 3"));
        dueUndone(x, "enrol without a place", y -> y.enrol(0));
    }

    private static void promise53NotModifications() {
        OptionBlockPlanner x = planner(sizes(1), 3, 2);
        x.save();
        x.restore();
        Check.due(Check.STATE, "undo after restore", x::undo);
        x.openClass(0, 0);
        x.bestValue(0);
        x.leastClashes();
        x.writeTimetable(0);
        x.type('p');
        Check.answerOf(x::execute);
        Check.answerOf(() -> x.addSubject(0));
        Check.answerOf(() -> x.join(0, 9));
        run(x, "pupil;subject 0");
        x.join(0, 0);
        Check.answerOf(() -> x.join(1, 0));
        x.save();
        Check.due(1, "undo", x::undo);
        Check.due(-1, "blockOf(0, 0)", () -> x.blockOf(0, 0));
        Check.due(0, "undo", x::undo);
        Check.due(false, "isOpen(0, 0)", () -> x.isOpen(0, 0));
        Check.due(Check.STATE, "undo", x::undo);
    }

    private static void dueChainOfOneMove(int pupil, int block, OptionBlockPlanner x) {
        Check.due(1, "chainMoves", x::chainMoves);
        Check.due(pupil, "chainPupil(0)", () -> x.chainPupil(0));
        Check.due(block, "chainBlock(0)", () -> x.chainBlock(0));
    }

    private static void promise53BringsBackChains() {
        OptionBlockPlanner x = planner(sizes(1, 9, 1, 9), 3, 4);
        open(x, 0, 0);
        open(x, 1, 1);
        open(x, 2, 0);
        open(x, 3, 2);
        for (int number = 0; number < 4; number++) {
            x.join(number, number);
        }
        open(x, 0, 1);
        open(x, 2, 2);
        Check.due(1, "join(1, 0)", () -> x.join(1, 0));
        dueChainOfOneMove(0, 1, x);
        x.save();
        Check.due(1, "join(3, 2)", () -> x.join(3, 2));
        dueChainOfOneMove(2, 2, x);
        x.undo();
        dueChainOfOneMove(0, 1, x);
        x.join(3, 2);
        x.restore();
        dueChainOfOneMove(0, 1, x);
    }

    private static void promises54And55Snapshot() {
        OptionBlockPlanner x = planner(sizes(1, 2), 3, 2);
        open(x, 0, 0, 1);
        wish(x, 0, 0);
        x.join(0, 0);
        Check.due(Check.STATE, "restore without a snapshot", x::restore);
        String before = stateOf(x);
        Check.due(2, "save", x::save);
        x.addPupil();
        x.addSubject(4);
        x.setBlockCount(4);
        x.setSize(0, 9);
        x.addWish(0, 1);
        x.setReserve(1, 0);
        x.join(1, 0);
        x.withdraw(0);
        x.join(2, 0);
        x.openClass(1, 3);
        Check.due(2, "restore", x::restore);
        Check.due(before, "the state after restore", () -> stateOf(x));
        Check.due(Check.STATE, "undo after restore", x::undo);
        x.addPupil();
        Check.due(0, "undo after restore and a modification", x::undo);
        x.addPupil();
        Check.due(2, "restore again", x::restore);
        Check.due(before, "the state after restore again", () -> stateOf(x));
        x.addPupil();
        Check.due(3, "save in place of the earlier one", x::save);
        Check.due(0, "undo after save", x::undo);
        Check.due(2, "pupilCount", x::pupilCount);
        Check.due(3, "restore of the newer one", x::restore);
        Check.due(3, "pupilCount", x::pupilCount);
    }

    private static void promise55BringsBackWishes() {
        OptionBlockPlanner x = planner(sizes(1, 1, 1), 3, 1);
        wish(x, 0, 0, 1);
        x.save();
        x.undo();
        wish(x, 0, 2);
        Check.due(2, "wishAt(0, 1)", () -> x.wishAt(0, 1));
        x.restore();
        Check.due(2, "wishCount(0) after restore", () -> x.wishCount(0));
        Check.due(1, "wishAt(0, 1) after restore", () -> x.wishAt(0, 1));
    }
}
