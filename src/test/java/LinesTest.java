import java.util.NoSuchElementException;

/** Promises 28 to 30 and 34 to 41: lines, reasons, accounts, undo and the snapshot. */
public final class LinesTest {
    private static final Class<?> NO_INDEX = IndexOutOfBoundsException.class;
    private static final Class<?> IMPROPER = IllegalArgumentException.class;
    private static final Class<?> REFUSED = UnsupportedOperationException.class;
    private static final Class<?> NOT_FOUND = NoSuchElementException.class;
    private static final Class<?> NOT_NOW = IllegalStateException.class;
    private static final Class<?> NO_DIVISOR = ArithmeticException.class;
    private static final Check CHECK = new Check("LinesTest");

    public static void main(String[] args) {
        line();
        houseLine();
        character();
        refusal();
        account();
        isWell();
        meanSleep();
        prankShare();
        undoOfEachChange();
        undoOfEight();
        whatUndoLeaves();
        saveAndRestore();
        refusedCallsChangeNothing();
        CHECK.end();
    }

    private static void line() {
        BellObservatory x = new BellObservatory();
        x.hall(1, 0, 5);
        for (int cell = 8; cell <= 10; cell++) {
            x.post(cell);
        }
        x.house(8, 0, 0);
        x.block(9);
        x.block(11);
        x.block(14);
        CHECK.due("line(1)", "0#o#__#.", () -> Check.row(x, 1));
        CHECK.due("line(0)", "........", () -> Check.row(x, 0));
        for (int cell = 56; cell < 64; cell++) {
            x.house(cell, 0, 0);
        }
        CHECK.due("line(7)", "12345678", () -> Check.row(x, 7));
        CHECK.due("its length", 8, () -> x.line(7));
        CHECK.due("line(-1)", IMPROPER, () -> x.line(-1));
        CHECK.due("line(8)", IMPROPER, () -> x.line(8));
        CHECK.due("the line stays", "12345678", () -> Check.lineOf(x, 8));
        x.house(0, 0, 0);
        CHECK.due("the line stays as it was written", '1', () -> x.character(0));
        CHECK.due("the house 9", "9.......", () -> Check.row(x, 0));
    }

    private static void houseLine() {
        BellObservatory x = new BellObservatory();
        CHECK.due("houseLine of none", NO_INDEX, () -> x.houseLine(0));
        x.house(9, 0, 0);
        x.house(63, 22, 10);
        x.house(0, 9, 23);
        CHECK.due("houseLine(-1)", NO_INDEX, () -> x.houseLine(-1));
        CHECK.due("houseLine(3)", NO_INDEX, () -> x.houseLine(3));
        CHECK.due("a house that never sleeps", "0@9", () -> Check.houseRow(x, 0));
        CHECK.due("a house that sleeps now", "1@63 22-10z", () -> Check.houseRow(x, 1));
        CHECK.due("a house that sleeps later", "2@0 9-23", () -> Check.houseRow(x, 2));
        x.pass(9);
        x.ring(2, 1, 0);
        x.ring(2, 0, 3);
        x.ring(2, 0, 1);
        CHECK.due("with pranks", "2@0 9-23z!!", () -> Check.houseRow(x, 2));
        for (int prank = 0; prank < 9; prank++) {
            x.ring(1, 9, 9);
        }
        CHECK.due("with nine pranks", "1@63 22-10z!!!!!!!!!", () -> Check.houseRow(x, 1));
        x.ring(1, 9, 9);
        CHECK.due("with ten pranks", "1@63 22-10z!!!!!!!!!", () -> Check.houseRow(x, 1));
        CHECK.due("its length", 20, () -> x.houseLine(1));
        CHECK.due("houseLine(4)", NO_INDEX, () -> x.houseLine(4));
        CHECK.due("the line stays", '3', () -> x.character(3));
        for (int prank = 0; prank < 11; prank++) {
            x.ring(0, 9, 9);
        }
        CHECK.due("a short line with nine of eleven pranks", "0@9!!!!!!!!!", () -> Check.houseRow(x, 0));
        x.hall(7, 0, 7);
        x.house(62, 0, 0);
        x.ring(1, 0, 1);
        CHECK.due("an echo that was a prank", "3@62!", () -> Check.houseRow(x, 3));
        x.house(10, 9, 10);
        CHECK.due("a house that sleeps an hour", "4@10 9-10z", () -> Check.houseRow(x, 4));
    }

    private static void character() {
        BellObservatory x = new BellObservatory();
        CHECK.due("character(0) at first", NO_INDEX, () -> x.character(0));
        x.line(0);
        CHECK.due("character(-1)", NO_INDEX, () -> x.character(-1));
        CHECK.due("character(7)", '.', () -> x.character(7));
        CHECK.due("character(8)", NO_INDEX, () -> x.character(8));
        x.house(0, 0, 0);
        CHECK.due("a shorter line", 3, () -> x.houseLine(0));
        CHECK.due("character(3)", NO_INDEX, () -> x.character(3));
        CHECK.due("character(1)", '@', () -> x.character(1));
    }

    private static void refusal() {
        BellObservatory x = new BellObservatory();
        CHECK.due("refusal(false) at first", NOT_FOUND, () -> x.refusal(false));
        CHECK.due("refusal(true) at first", NOT_FOUND, () -> x.refusal(true));
        Check.answerOf(() -> x.house(64, 0, 0));
        Check.answerOf(() -> x.goAway(0));
        CHECK.due("what is wrong is not refused", NOT_FOUND, () -> x.refusal(false));
        x.block(0);
        Check.answerOf(() -> x.house(0, 0, 0));
        CHECK.due("reason 2", 2, () -> x.refusal(false));
        CHECK.due("the cell 0", 0, () -> x.refusal(true));
        x.post(5);
        Check.answerOf(() -> x.tell(0, 0));
        CHECK.due("the latest reason", 5, () -> x.refusal(false));
        CHECK.due("no pranks", 0, () -> x.refusal(true));
        x.undo();
        CHECK.due("undo leaves the reason", 5, () -> x.refusal(false));
        x.save();
        Check.answerOf(() -> x.post(0));
        x.restore();
        CHECK.due("restore leaves the reason", 2, () -> x.refusal(false));
    }

    private static void account() {
        BellObservatory x = new BellObservatory();
        CHECK.due("account(-1)", IMPROPER, () -> x.account(-1));
        CHECK.due("account(13)", IMPROPER, () -> x.account(13));
        x.pass(50);
        x.house(16, 0, 0);
        x.house(17, 0, 5);
        x.house(20, 0, 0);
        x.hall(2, 0, 1);
        x.hall(3, 0, 1);
        x.post(0);
        x.post(1);
        x.post(2);
        x.post(3);
        x.block(60);
        x.block(61);
        x.ring(0, 2, 0);
        x.ring(0, 2, 2);
        x.ring(2, 1, 1);
        x.ring(0, 1, 0);
        x.tell(3, 2);
        x.tell(1, 2);
        x.tell(2, 2);
        Check.type(x, "hello");
        int[] due = {2, 2, 3, 2, 4, 3, 2, 4, 2, 2, 2, 5, 8};
        for (int what = 0; what < due.length; what++) {
            int number = what;
            CHECK.due("account(" + what + ")", due[what], () -> x.account(number));
        }
    }

    private static void isWell() {
        BellObservatory x = new BellObservatory();
        CHECK.due("a new object is well", true, () -> x.isWell());
        x.house(16, 23, 5);
        x.house(18, 0, 24 - 1);
        x.house(63, 3, 3);
        x.hall(2, 0, 7);
        x.block(62);
        x.block(55);
        CHECK.due("without a prank", true, () -> x.isWell());
        x.ring(0, 9, 9);
        CHECK.due("with a prank", true, () -> x.isWell());
        x.post(0);
        x.post(20);
        x.tell(0, 5);
        x.tell(1, 5);
        CHECK.due("with posts that tell", true, () -> x.isWell());
        x.goAway(0);
        CHECK.due("with another house 0", true, () -> x.isWell());
        x.goAway(0);
        x.goAway(0);
        CHECK.due("without houses", true, () -> x.isWell());
        x.undo();
        CHECK.due("after undo", true, () -> x.isWell());
    }

    private static void meanSleep() {
        BellObservatory x = new BellObservatory();
        CHECK.due("the mean of none", NO_DIVISOR, () -> x.meanSleep());
        x.house(0, 0, 0);
        CHECK.due("the mean of no hours", 0.0, () -> x.meanSleep());
        x.house(1, 22, 6);
        CHECK.due("the mean of 8 and 0", 4.0, () -> x.meanSleep());
        x.house(2, 5, 7);
        CHECK.due("the mean of 10 of 3", 10.0 / 3.0, () -> x.meanSleep());
        x.goAway(1);
        CHECK.due("the mean of 2 of 2", 1.0, () -> x.meanSleep());
        x.goAway(0);
        CHECK.due("the mean of 2", 2.0, () -> x.meanSleep());
    }

    private static void prankShare() {
        BellObservatory x = new BellObservatory();
        x.house(0, 0, 0);
        x.house(1, 0, 0);
        CHECK.due("the share of none", NO_DIVISOR, () -> x.prankShare());
        x.ring(0, 1, 0);
        CHECK.due("no prank", 0.0f, () -> x.prankShare());
        x.ring(0, 1, 1);
        x.ring(0, 2, 0);
        CHECK.due("one of three", 1.0f / 3.0f, () -> x.prankShare());
        x.hall(0, 0, 1);
        x.ring(0, 1, 1);
        CHECK.due("with an echo, three of five", 3.0f / 5.0f, () -> x.prankShare());
        x.goAway(0);
        x.goAway(0);
        CHECK.due("without houses", 3.0f / 5.0f, () -> x.prankShare());
    }

    private static BellObservatory fullTown() {
        BellObservatory x = new BellObservatory();
        x.house(16, 0, 5);
        x.house(18, 0, 0);
        x.house(30, 7, 9);
        x.hall(2, 0, 7);
        x.hall(3, 0, 7);
        x.post(3);
        x.post(4);
        x.block(9);
        x.ring(1, 9, 2);
        x.tell(1, 3);
        return x;
    }

    private static void undoOfEachChange() {
        BellObservatory x = fullTown();
        Check.Call[] changes = {
            () -> x.house(40, 1, 2), () -> x.goAway(0), () -> x.block(9), () -> x.block(10), () -> x.hall(5, 1, 2),
            () -> x.dropHall(0), () -> x.pass(30), () -> x.ring(0, 5, 1), () -> x.ring(1, 2, 0), () -> x.post(50),
            () -> x.dropPost(0), () -> x.dropPost(1), () -> x.tell(0, 2), () -> x.tell(1, 4),
        };
        String ahead = Check.stateOf(x);
        for (int change = 0; change < changes.length; change++) {
            changes[change].answer();
            String after = Check.stateOf(x);
            CHECK.due("the change " + change + " changes", false, () -> after.equals(ahead));
            CHECK.due("undo of the change " + change, 7, () -> x.undo());
            CHECK.due("the state after it", ahead, () -> Check.stateOf(x));
            x.save();
            x.pass(24);
            x.restore();
            for (int hours = 0; hours < 8; hours++) {
                x.pass(24);
                x.pass(24);
                x.undo();
                x.undo();
                x.block(63);
                x.block(63);
            }
        }
    }

    private static void undoOfEight() {
        BellObservatory x = new BellObservatory();
        CHECK.due("undo at first", NOT_NOW, () -> x.undo());
        for (int hour = 1; hour <= 10; hour++) {
            x.pass(1);
            int due = Math.min(hour, 8);
            CHECK.due("changes that can be undone", due, () -> x.account(12));
        }
        for (int left = 7; left >= 0; left--) {
            int due = left;
            CHECK.due("undo", due, () -> x.undo());
            CHECK.due("the hour", left + 2, () -> x.account(0));
        }
        CHECK.due("undo of a ninth", NOT_NOW, () -> x.undo());
        CHECK.due("the hour stays", 2, () -> x.account(0));
        x.pass(5);
        x.pass(6);
        x.undo();
        x.pass(7);
        CHECK.due("undo of what came after undo", 1, () -> x.undo());
        CHECK.due("the hour ahead of it", 7, () -> x.account(0));
        CHECK.due("undo of the first", 0, () -> x.undo());
        CHECK.due("the hour ahead of both", 2, () -> x.account(0));
    }

    private static void whatUndoLeaves() {
        BellObservatory x = new BellObservatory();
        x.house(0, 0, 0);
        x.line(0);
        Check.type(x, "x");
        Check.answerOf(() -> x.run());
        Check.type(x, "b1");
        x.save();
        x.pass(1);
        x.undo();
        CHECK.due("the input stays", 2, () -> x.account(11));
        CHECK.due("the error position stays", 0, () -> x.errorPosition());
        CHECK.due("the line stays", "0.......", () -> Check.lineOf(x, 8));
        x.restore();
        CHECK.due("the input stays at restore", 2, () -> x.account(11));
        CHECK.due("the error position stays at restore", 0, () -> x.errorPosition());
        CHECK.due("the line stays at restore", "0.......", () -> Check.lineOf(x, 8));
    }

    private static void saveAndRestore() {
        BellObservatory x = new BellObservatory();
        CHECK.due("restore without a snapshot", NOT_NOW, () -> x.restore());
        x.pass(1);
        CHECK.due("save of no houses", 0, () -> x.save());
        CHECK.due("save is no change", 1, () -> x.account(12));
        x.house(3, 0, 0);
        CHECK.due("restore", 0, () -> x.restore());
        CHECK.due("restore forgets all", 0, () -> x.account(12));
        CHECK.due("so that none can be undone", NOT_NOW, () -> x.undo());
        CHECK.due("the hour", 1, () -> x.account(0));

        BellObservatory full = fullTown();
        String ahead = Check.stateOf(full);
        CHECK.due("save", 3, () -> full.save());
        for (int time = 0; time < 2; time++) {
            full.goAway(0);
            full.dropHall(0);
            full.dropPost(1);
            full.pass(99);
            full.ring(0, 9, 9);
            full.block(0);
            full.undo();
            CHECK.due("restore", 3, () -> full.restore());
            CHECK.due("the state of the snapshot", ahead, () -> Check.stateOf(full));
        }
        full.goAway(2);
        CHECK.due("save in place of it", 2, () -> full.save());
        full.goAway(0);
        CHECK.due("restore of the later one", 2, () -> full.restore());
    }

    private static void refusedCallsChangeNothing() {
        BellObservatory x = fullTown();
        String ahead = Check.stateOf(x);
        Check.Call[] calls = {
            () -> x.house(16, 0, 0), () -> x.house(9, 0, 0), () -> x.house(64, 0, 0), () -> x.goAway(3),
            () -> x.block(16), () -> x.block(64), () -> x.hall(2, 7, 7), () -> x.hall(9, 0, 0), () -> x.dropHall(2),
            () -> x.pass(0), () -> x.ring(3, 1, 0), () -> x.ring(0, 0, 0), () -> x.post(3), () -> x.post(9),
            () -> x.dropPost(2), () -> x.tell(1, 3), () -> x.tell(1, 15), () -> x.tell(2, 3), () -> x.restore(),
            () -> x.classOf(0, 24, 1, 0), () -> x.echo(0, 2, 1), () -> x.heard(0, 10, 0), () -> x.fix(64),
        };
        for (int call = 0; call < calls.length; call++) {
            Check.Call made = calls[call];
            CHECK.due("the call " + call + " throws", true, () -> Check.answerOf(made) instanceof Class);
            CHECK.due("what can be undone after the call " + call, 8, () -> x.account(12));
            if (call % 4 == 0 || call == calls.length - 1) {
                CHECK.due("the state after the call " + call, ahead, () -> Check.stateOf(x));
            }
        }
        CHECK.due("refused", REFUSED, () -> x.post(3));
    }
}
