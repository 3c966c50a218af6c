import java.util.concurrent.Callable;

/**
 * Long runs of calls with arguments from a row of numbers that is always the same, each answer
 * compared with that of the model. An argument of main is the number of runs, if there is one.
 */
public final class RandomRunsTest {
    private static final int RUNS = 5000;
    // What later calls of one object answer is free.
    private static final int CALLS = 512;
    private static final String[] WORDS = {"subject 2", "pupil", "blocks 3", "arrange", "x", "pupil;", " ",
        "enrol 123"};

    private final Model model = new Model();
    private final OptionBlockPlanner x = new OptionBlockPlanner();
    private final StringBuilder calls = new StringBuilder();
    private final int run;
    private final int greatestSize;
    private final int wildness;
    private long seed;
    private boolean wrong;
    private int made;

    private RandomRunsTest(int run) {
        this.run = run;
        seed = run * 7919L + 17;
        greatestSize = 1 + below(4);
        wildness = run % 3 == 0 ? 5 : 40;
    }

    public static void main(String[] args) {
        int runs = args.length > 0 ? Integer.parseInt(args[0]) : RUNS;
        for (int run = 0; run < runs; run++) {
            new RandomRunsTest(run).compare();
        }
        Check.end("RandomRunsTest");
    }

    // The same numbers in every run of the test.
    private int below(int bound) {
        seed = seed * 6364136223846793005L + 1442695040888963407L;
        return (int) ((seed >>> 33) % bound);
    }

    /** Mostly a number that exists, at times one beside them. */
    private int number(int count) {
        if (below(wildness) == 0) {
            return below(4) == 0 ? Integer.MIN_VALUE + below(9) : below(count + 4) - 2;
        }
        return count == 0 ? 0 : below(count);
    }

    private int subject() {
        return number(model.subjectCount());
    }

    private int pupil() {
        return number(model.pupilCount());
    }

    private int block() {
        return number(model.blockCount());
    }

    private void same(String call, Callable<?> due, Callable<?> got) {
        if (made == CALLS) {
            return;
        }
        made++;
        calls.append(call).append("; ");
        String want = Check.answerOf(due);
        if (!Check.same(want, Check.answerOf(got), "run " + run + ": " + call) && !wrong) {
            wrong = true;
            System.out.println(calls);
        }
    }

    private void compare() {
        boolean fromNothing = run % 8 == 0;
        if (run % 10 == 1) {
            crowd();
        } else if (!fromNothing) {
            build();
        }
        // The runs differ in what they do most.
        int kind = run % 5;
        while (!wrong && made < CALLS) {
            int choice = below(100);
            if (choice < (fromNothing ? 30 : 5)) {
                school();
            } else if (choice < (fromNothing ? 40 : 10)) {
                wishes();
            } else if (choice < (kind < 2 ? 75 : 30)) {
                lateChange();
            } else if (choice < (kind == 2 ? 75 : 45)) {
                placement();
            } else if (choice < (kind == 3 ? 60 : 48)) {
                arrangement();
            } else if (choice < (kind == 4 ? 75 : 52)) {
                program();
            } else if (choice < 80) {
                memory();
            } else {
                look();
            }
        }
    }

    /** Most runs begin with a school in which chains, wishes and refusals are at hand. */
    private void build() {
        setBlockCount(2 + below(3));
        int subjects = 3 + below(5);
        int pupils = 5 + below(8);
        for (int subject = 0; subject < subjects; subject++) {
            addSubject(1 + below(greatestSize));
        }
        for (int pupil = 0; pupil < pupils; pupil++) {
            addPupil();
        }
        for (int open = 0; open < 10 + below(25); open++) {
            openClass(below(subjects), below(model.blockCount()));
        }
        for (int wish = 0; wish < 2 * pupils; wish++) {
            wishes();
        }
        for (int late = below(3) == 0 ? 30 : 0; late > 0; late--) {
            join(below(pupils), below(subjects));
        }
    }

    /** Subject 0 in all blocks, and one in each block that keeps pupils from moving there: long chains. */
    private void crowd() {
        setBlockCount(4);
        int size = 1 + below(2);
        for (int subject = 0; subject < 5; subject++) {
            addSubject(subject == 0 ? size : 9);
        }
        for (int block = 0; block < 4; block++) {
            openClass(0, block);
            openClass(1 + block, block);
        }
        for (int pupil = 0; pupil < 4 * size + 1; pupil++) {
            addPupil();
            for (int block = 0; block < 4; block++) {
                if (below(5) > 1) {
                    join(pupil, 1 + block);
                }
            }
            join(pupil, 0);
        }
    }

    private void addSubject(int size) {
        same("addSubject(" + size + ")", () -> model.addSubject(size), () -> x.addSubject(size));
    }

    private void setBlockCount(int count) {
        same("setBlockCount(" + count + ")", () -> model.setBlockCount(count), () -> x.setBlockCount(count));
    }

    private void addPupil() {
        same("addPupil()", model::addPupil, x::addPupil);
    }

    private void openClass(int subject, int block) {
        same("openClass(" + subject + ", " + block + ")",
                () -> model.openClass(subject, block), () -> x.openClass(subject, block));
    }

    private void join(int pupil, int subject) {
        same("join(" + pupil + ", " + subject + ")", () -> model.join(pupil, subject), () -> x.join(pupil, subject));
    }

    private void school() {
        int subject = subject();
        int block = block();
        int size = number(5);
        switch (below(7)) {
            case 0 -> addSubject(size);
            case 1 -> same("setSize(" + subject + ", " + size + ")",
                    () -> model.setSize(subject, size), () -> x.setSize(subject, size));
            case 2 -> setBlockCount(size);
            case 3, 4 -> openClass(subject, block);
            case 5 -> same("closeClass(" + subject + ", " + block + ")",
                    () -> model.closeClass(subject, block), () -> x.closeClass(subject, block));
            default -> addPupil();
        }
    }

    private void wishes() {
        int pupil = pupil();
        int subject = subject();
        String of = "(" + pupil + ", " + subject + ")";
        if (below(3) > 0) {
            same("addWish" + of, () -> model.addWish(pupil, subject), () -> x.addWish(pupil, subject));
        } else {
            same("setReserve" + of, () -> model.setReserve(pupil, subject), () -> x.setReserve(pupil, subject));
        }
    }

    private void lateChange() {
        int pupil = pupil();
        int subject = below(4) == 0 ? subject() : unattended(pupil);
        int to = below(4) == 0 ? subject() : unattended(pupil);
        String of = "(" + pupil + ", " + subject + ")";
        switch (below(8)) {
            case 0, 1, 2, 3 -> {
                same("movesFor" + of, () -> model.movesFor(pupil, subject), () -> x.movesFor(pupil, subject));
                same("movesByTrial" + of, () -> model.movesFor(pupil, subject), () -> x.movesByTrial(pupil, subject));
                join(pupil, subject);
                chain();
            }
            case 4 -> same("quit" + of, () -> model.quit(pupil, subject), () -> x.quit(pupil, subject));
            case 5 -> quitSomething(pupil);
            default -> {
                int from = below(6) == 0 ? subject : attended(pupil);
                same("change(" + pupil + ", " + from + ", " + to + ")",
                        () -> model.change(pupil, from, to), () -> x.change(pupil, from, to));
                chain();
            }
        }
    }

    private int unattended(int pupil) {
        int count = model.subjectCount();
        int first = count == 0 ? 0 : below(count);
        for (int more = 0; more < count; more++) {
            int subject = (first + more) % count;
            if (pupil >= 0 && pupil < model.pupilCount() && model.blockOf(pupil, subject) < 0) {
                return subject;
            }
        }
        return first;
    }

    private int attended(int pupil) {
        for (int block = 0; block < model.blockCount(); block++) {
            if (pupil >= 0 && pupil < model.pupilCount() && model.subjectIn(pupil, block) >= 0 && below(2) == 0) {
                return model.subjectIn(pupil, block);
            }
        }
        return 0;
    }

    private void quitSomething(int pupil) {
        int subject = attended(pupil);
        same("quit(" + pupil + ", " + subject + ")",
                () -> model.quit(pupil, subject), () -> x.quit(pupil, subject));
    }

    private void chain() {
        int move = below(5) - 1;
        same("refusalReason()", model::refusalReason, x::refusalReason);
        same("chainMoves()", model::chainMoves, x::chainMoves);
        same("chainPupil(" + move + ")", () -> model.chainPupil(move), () -> x.chainPupil(move));
        same("chainBlock(" + move + ")", () -> model.chainBlock(move), () -> x.chainBlock(move));
    }

    private void placement() {
        int pupil = pupil();
        switch (below(6)) {
            case 0, 1 -> same("enrol(" + pupil + ")", () -> model.enrol(pupil), () -> x.enrol(pupil));
            case 2 -> same("enrolAll()", model::enrolAll, x::enrolAll);
            case 3 -> same("withdraw(" + pupil + ")", () -> model.withdraw(pupil), () -> x.withdraw(pupil));
            default -> {
                boolean setsFirst = below(2) == 0;
                value(pupil, setsFirst);
                value(pupil, !setsFirst);
                service(pupil, setsFirst);
                service(pupil, !setsFirst);
                same("servedCount()", model::servedCount, x::servedCount);
            }
        }
    }

    private void value(int pupil, boolean bySets) {
        if (bySets) {
            same("bestValueBySets(" + pupil + ")", () -> model.bestValue(pupil), () -> x.bestValueBySets(pupil));
        } else {
            same("bestValue(" + pupil + ")", () -> model.bestValue(pupil), () -> x.bestValue(pupil));
        }
    }

    private void service(int pupil, boolean byCounting) {
        if (byCounting) {
            same("canServeByCounting(" + pupil + ")", () -> model.canServe(pupil), () -> x.canServeByCounting(pupil));
        } else {
            same("canServe(" + pupil + ")", () -> model.canServe(pupil), () -> x.canServe(pupil));
        }
    }

    private void leastClashes(boolean byTrial) {
        if (byTrial) {
            same("leastClashesByTrial()", model::leastClashes, x::leastClashesByTrial);
        } else {
            same("leastClashes()", model::leastClashes, x::leastClashes);
        }
    }

    private void arrangement() {
        if (below(4) == 0) {
            for (int pupil = 0; pupil < model.pupilCount(); pupil++) {
                int number = pupil;
                same("withdraw(" + pupil + ")", () -> model.withdraw(number), () -> x.withdraw(number));
            }
        }
        boolean trialFirst = below(2) == 0;
        leastClashes(trialFirst);
        leastClashes(!trialFirst);
        same("arrange()", model::arrange, x::arrange);
        for (int subject = 0; subject < model.subjectCount(); subject++) {
            int number = subject;
            for (int block = 0; block < model.blockCount(); block++) {
                int place = block;
                same("isOpen(" + subject + ", " + block + ")",
                        () -> model.isOpen(number, place), () -> x.isOpen(number, place));
            }
        }
    }

    private String command() {
        int pupil = below(13);
        int subject = below(7);
        return switch (below(13)) {
            case 0 -> "subject " + below(10);
            case 1 -> "blocks " + (2 + below(4));
            case 2 -> "open " + subject + " " + below(4);
            case 3 -> "close " + subject + " " + below(4);
            case 4 -> "pupil";
            case 5 -> "wish " + pupil + " " + subject;
            case 6 -> "reserve " + (pupil < 10 ? "0" : "") + pupil + " " + subject;
            case 7 -> "enrol " + pupil;
            case 8, 9 -> "join " + pupil + " " + subject;
            case 10 -> "quit " + pupil + " " + subject;
            case 11 -> "change " + pupil + " " + subject + " " + below(7);
            default -> below(2) == 0 ? "arrange" : WORDS[below(WORDS.length)];
        };
    }

    private void program() {
        StringBuilder text = new StringBuilder(command());
        for (int more = below(5); more > 0; more--) {
            text.append(';').append(command());
        }
        if (below(6) == 0) {
            text.setCharAt(below(text.length()), " ;0123acehlopsx".charAt(below(15)));
        }
        if (below(6) == 0) {
            text.setLength(below(text.length()));
        }
        for (char character : text.toString().toCharArray()) {
            same("type('" + character + "')", () -> model.type(character), () -> x.type(character));
        }
        if (below(20) == 0) {
            char character = (char) below(300);
            same("type((char) " + (int) character + ")", () -> model.type(character), () -> x.type(character));
        }
        same("execute()", model::execute, x::execute);
        same("errorPosition()", model::errorPosition, x::errorPosition);
        same("failedCommand()", model::failedCommand, x::failedCommand);
        same("failureKind()", model::failureKind, x::failureKind);
        chain();
    }

    private void memory() {
        switch (below(10)) {
            case 0 -> same("save()", model::save, x::save);
            case 1 -> same("restore()", model::restore, x::restore);
            default -> {
                for (int steps = below(16) == 0 ? 10 : 1; steps > 0; steps--) {
                    same("undo()", model::undo, x::undo);
                }
            }
        }
        if (model.pupilCount() > 0) {
            timetable(below(model.pupilCount()));
        }
        look();
        look();
    }

    private void timetable(int pupil) {
        same("writeTimetable(" + pupil + ")", () -> model.writeTimetable(pupil), () -> x.writeTimetable(pupil));
        int length = 2 * model.blockCount() + 2;
        for (int place = below(8) - 1; place <= length; place++) {
            int index = place;
            same("lineAt(" + place + ")", () -> model.lineAt(index), () -> x.lineAt(index));
        }
    }

    private void look() {
        int pupil = pupil();
        int subject = subject();
        int other = subject();
        int block = block();
        int place = below(6) - 1;
        String of = "(" + pupil + ", " + subject + ")";
        String lies = "(" + subject + ", " + block + ")";
        switch (below(9)) {
            case 0 -> {
                same("subjectCount()", model::subjectCount, x::subjectCount);
                same("blockCount()", model::blockCount, x::blockCount);
                same("pupilCount()", model::pupilCount, x::pupilCount);
                same("sizeOf(" + subject + ")", () -> model.sizeOf(subject), () -> x.sizeOf(subject));
            }
            case 1 -> {
                same("isOpen" + lies, () -> model.isOpen(subject, block), () -> x.isOpen(subject, block));
                same("pupilsInClass" + lies,
                        () -> model.pupilsInClass(subject, block), () -> x.pupilsInClass(subject, block));
            }
            case 2 -> same("pupilInClass(" + subject + ", " + block + ", " + place + ")",
                    () -> model.pupilInClass(subject, block, place), () -> x.pupilInClass(subject, block, place));
            case 3 -> {
                same("wishCount(" + pupil + ")", () -> model.wishCount(pupil), () -> x.wishCount(pupil));
                same("wishAt(" + pupil + ", " + place + ")",
                        () -> model.wishAt(pupil, place), () -> x.wishAt(pupil, place));
                same("reserveOf(" + pupil + ")", () -> model.reserveOf(pupil), () -> x.reserveOf(pupil));
            }
            case 4 -> {
                same("subjectIn(" + pupil + ", " + block + ")",
                        () -> model.subjectIn(pupil, block), () -> x.subjectIn(pupil, block));
                same("blockOf" + of, () -> model.blockOf(pupil, subject), () -> x.blockOf(pupil, subject));
            }
            case 5 -> {
                String both = "(" + subject + ", " + other + ")";
                same("commonWishes" + both,
                        () -> model.commonWishes(subject, other), () -> x.commonWishes(subject, other));
                same("doClash" + both, () -> model.doClash(subject, other), () -> x.doClash(subject, other));
            }
            case 6 -> same("clashCount()", model::clashCount, x::clashCount);
            case 7 -> same("meanClassSize()", model::meanClassSize, x::meanClassSize);
            default -> timetable(pupil);
        }
    }
}
