/** Sentences of the promises 20 to 22: mean, count, undo. */
final class CountSentences extends Sentences {
    CountSentences(Check check, Document document) {
        super(check, document);
    }

    @Override
    void all() {
        meanReturns();
        meanCollector();
        meanBits();
        meanInvalid();
        meanNotFound();
        countReturns();
        countWhat();
        countNames();
        countLeaves();
        countEntries();
        countTrades();
        countLeavesSoFar();
        countWealthiest();
        countWorths();
        countDedicated();
        countStates();
        countText();
        countNumber();
        countInvalid();
        undoRestores();
        undoReturns();
        undoNotPossible();
    }

    private static int bits(float value) {
        return Float.floatToIntBits(value);
    }

    private void meanReturns() {
        of("Promise 20", "Returns the mean value of the entries of a book, as a float: the sum of their values for the owner, "
            + "as they count there, as a float, divided by how many there are, as a float.");
        FairBooks x = named(0);
        leaves(x, 1, 3);
        x.sign(0, 0, 0);
        due("100, without what a whole theme is worth", bits(100f), x.mean(1));
        x.sign(0, 1, 0);
        due("100 and 50", bits(75f), x.mean(1));
        x.over(1, 0);
        due("100, 50, and 75 once", bits(225f / 3f), x.mean(1));
        x.dedicate(2, 0, 1);
        due("100, 50 and 150", bits(100f), x.mean(1));
        x.dedicate(0, 0, 2);
        due("50, 50 and 150", bits(250f / 3f), x.mean(1));
        long before = picture(x);
        x.mean(1);
        due("nothing is changed", before, picture(x));
        due("no coins", NOT_FOUND, x.mean(0));
    }

    private void meanCollector() {
        of("Promise 20", "`collector`: 0 to 3");
        FairBooks x = new FairBooks();
        for (int c = 0; c <= 3; c++) {
            x.name(1 + c, 0);
            x.leaf(c);
            x.sign(c, 0, c);
        }
        for (int c = 0; c <= 3; c++) {
            due("mean(" + c + ")", bits(10f * (1 + c)), x.mean(c));
        }
        for (int c : outside(0, 3)) {
            due("mean(" + c + ")", INVALID, x.mean(c));
        }
    }

    private void meanBits() {
        of("Promise 20", "Returns the bits of the float");
        FairBooks x = new FairBooks();
        x.name(50, 0);
        leaves(x, 3, 2);
        x.over(0, 0);
        x.dedicate(1, 0, 3);
        due("1500, the greatest one", 1153138688, x.mean(3));
        FairBooks y = new FairBooks();
        for (int name = 0; name < 2; name++) {
            y.name(1, 0);
        }
        leaves(y, 0, 8);
        float sum = 5;
        for (int page = 0; page < 16; page++) {
            y.sign(page / 2, page % 2, 0);
            y.dedicate(page / 2, page % 2, 1);
            sum += page == 0 ? 0 : 2;
            due("5 and " + page + " times 2", bits(sum / (page + 1)), y.mean(0));
        }
        due("35 by 16, the least one", 1074528256, y.mean(0));
        for (int fame = 1; fame <= 50; fame++) {
            FairBooks z = new FairBooks();
            z.name(fame, 0);
            leaves(z, 2, 4);
            z.sign(0, 0, 0);
            due("fame " + fame, bits(10f * fame), z.mean(2));
            z.sign(0, 1, 0);
            z.sign(1, 0, 0);
            due("fame " + fame + " by 3", bits(20f * fame / 3f), z.mean(2));
            z.over(1, 0);
            z.sign(2, 1, 0);
            z.sign(3, 0, 0);
            z.sign(3, 1, 0);
            due("fame " + fame + " by 7", bits((float) (35 * fame + 15 * fame / 2) / 7f), z.mean(2));
        }
    }

    private void meanInvalid() {
        of("Promise 20", "INVALID_ARGUMENT");
        FairBooks x = new FairBooks();
        due("mean(-1)", INVALID, x.mean(-1));
        due("mean(4)", INVALID, x.mean(4));
    }

    private void meanNotFound() {
        of("Promise 20", "NOT_FOUND if there is no entry.");
        FairBooks x = named(0);
        due("no leaves", NOT_FOUND, x.mean(0));
        leaves(x, 0, 8);
        due("8 empty leaves", NOT_FOUND, x.mean(0));
        x.sign(7, 1, 0);
        due("one entry", bits(100f), x.mean(0));
        x.leaf(1);
        x.trade(7, 8, 0);
        due("it is traded away", NOT_FOUND, x.mean(0));
        due("it is there", bits(100f), x.mean(1));
        x.tear(7);
        due("it is gone", NOT_FOUND, x.mean(1));
    }

    private void countReturns() {
        of("Promise 21", "Returns a number.");
        FairBooks x = named(0);
        x.leaf(0);
        x.sign(0, 0, 0);
        x.coins(0, 1);
        long before = picture(x);
        due("count(1)", 1, x.count(1));
        due("count(10)", INVALID, x.count(10));
        due("nothing is changed", before, picture(x));
        due("count(8)", 4, x.count(8));
    }

    private void countWhat() {
        of("Promise 21", "`what`: 0: names; 1: leaves; 2: entries; 3: trades so far; 4: leaves so far; "
            + "5: the collector with the greatest wealth, of several the lowest; 6: all worths together; 7: entries that are dedicated; "
            + "8: states in the history; 9: the length of the text");
        FairBooks x = named(0, 1, 2);
        for (int c = 0; c <= 3; c++) {
            leaves(x, c, 2);
        }
        x.over(2, 0);
        x.sign(6, 1, 1);
        x.dedicate(6, 1, 3);
        x.tear(7);
        x.trade(0, 2, 0);
        Check.write(x, "l0;l1;x");
        int[] due = {3, 7, 2, 1, 8, 3, 150 + 25 + 200 + 25, 1, 4, 7};
        for (int what = 0; what <= 9; what++) {
            due("count(" + what + ")", due[what], x.count(what));
        }
        for (int what : outside(0, 9)) {
            due("count(" + what + ")", INVALID, x.count(what));
        }
    }

    private void countNames() {
        of("Promise 21", "0: names");
        FairBooks x = new FairBooks();
        for (int names = 0; names <= 16; names++) {
            due("count(0)", names, x.count(0));
            x.name(1, 0);
        }
        due("16 behind the 17th", 16, x.count(0));
        x.undo();
        due("15 behind undo()", 15, x.count(0));
    }

    private void countLeaves() {
        of("Promise 21", "1: leaves");
        FairBooks x = named(0);
        for (int leaves = 0; leaves < 32; leaves++) {
            due("count(1)", leaves, x.count(1));
            x.leaf(leaves % 4);
        }
        due("all four books full", 32, x.count(1));
        x.leaf(0);
        due("behind LIMIT_REACHED", 32, x.count(1));
        x.over(0, 0);
        x.tear(0);
        due("a bundle of two less", 30, x.count(1));
    }

    private void countEntries() {
        of("Promise 21", "2: entries");
        FairBooks x = named(0);
        for (int c = 0; c < 4; c++) {
            leaves(x, c, 8);
            for (int page = 0; page < 16; page++) {
                due("count(2)", 16 * c + page, x.count(2));
                x.sign(8 * c + page / 2, page % 2, 0);
            }
        }
        due("each page of all books", 64, x.count(2));
        x.tear(0);
        x.tear(1);
        leaves(x, 0, 2);
        x.over(32, 0);
        due("one over two pages is one", 61, x.count(2));
    }

    private void countTrades() {
        of("Promise 21", "3: trades so far");
        FairBooks x = new FairBooks();
        x.leaf(0);
        x.leaf(1);
        due("none", 0, x.count(3));
        x.trade(0, 1, 0);
        due("one", 1, x.count(3));
        x.trade(0, 1, 101);
        x.trade(0, 0, 0);
        due("those that are not possible are none", 1, x.count(3));
        x.gain(0, 1, 0, 0);
        x.fair(0, 1);
        x.best(0, 0);
        due("nor are those that would be", 1, x.count(3));
        Check.write(x, "t0,1;t1,0;");
        x.fault(0);
        due("nor are those of a text that is not played", 1, x.count(3));
        x.play();
        due("with those of a text", 3, x.count(3));
        x.undo();
        due("behind undo()", 1, x.count(3));
        x.tear(0);
        due("a traded leaf that is gone", 1, x.count(3));
    }

    private void countLeavesSoFar() {
        of("Promise 21", "4: leaves so far");
        FairBooks x = new FairBooks();
        due("none", 0, x.count(4));
        leaves(x, 0, 9);
        due("8, the 9th is none", 8, x.count(4));
        x.tear(7);
        x.tear(6);
        due("those that are gone too", 8, x.count(4));
        x.leaf(0);
        due("one more", 9, x.count(4));
        x.undo();
        due("behind undo()", 8, x.count(4));
        Check.write(x, "l1;l2;");
        x.play();
        due("those of a text", 10, x.count(4));
    }

    private void countWealthiest() {
        of("Promise 21", "5: the collector with the greatest wealth, of several the lowest");
        FairBooks x = new FairBooks();
        due("all alike", 0, x.count(5));
        for (int c = 0; c < 4; c++) {
            x.coins(c, 0);
        }
        due("all have nothing", 0, x.count(5));
        for (int c = 0; c < 4; c++) {
            x.coins(c, 1 + c);
            due("count(5) with " + (1 + c), c, x.count(5));
        }
        x.coins(2, 4);
        due("2 and 3", 2, x.count(5));
        x.coins(1, 4);
        due("1, 2 and 3", 1, x.count(5));
        x.coins(0, 4);
        due("all alike again", 0, x.count(5));
        x.name(1, 0);
        x.leaf(3);
        x.sign(0, 0, 0);
        due("3 by the book", 3, x.count(5));
        x.coins(1, 4 + 35);
        due("1 and 3", 1, x.count(5));
        x.coins(1, 4 + 34);
        due("3 by one", 3, x.count(5));
    }

    private void countWorths() {
        of("Promise 21", "6: all worths together");
        FairBooks x = named(0);
        due("none", 0, x.count(6));
        int worths = 0;
        for (int c = 0; c < 4; c++) {
            x.leaf(c);
            x.sign(c, 0, 0);
            x.dedicate(c, 0, 2);
            worths += c == 2 ? 225 : 75;
            due("count(6) of " + (c + 1), worths, x.count(6));
        }
        x.coins(0, 9999);
        due("coins are no worths", worths, x.count(6));
        FairBooks y = new FairBooks();
        for (int name = 0; name < 16; name++) {
            y.name(50, 0);
        }
        for (int c = 0; c < 4; c++) {
            leaves(y, c, 8);
            for (int page = 0; page < 16; page++) {
                y.sign(8 * c + page / 2, page % 2, page);
                y.dedicate(8 * c + page / 2, page % 2, c);
            }
        }
        due("all pages of all books", 4 * (16000 + 400), y.count(6));
    }

    private void countDedicated() {
        of("Promise 21", "7: entries that are dedicated");
        FairBooks x = named(0);
        for (int c = 0; c < 4; c++) {
            leaves(x, c, 2);
            x.over(2 * c, 0);
            x.sign(2 * c, 0, 0);
            due("not yet of " + c, 2 * c, x.count(7));
            x.dedicate(2 * c + 1, 0, 0);
            due("one over two pages is one, of " + c, 2 * c + 1, x.count(7));
            x.dedicate(2 * c, 0, 3);
            due("to another, of " + c, 2 * c + 2, x.count(7));
        }
        x.tear(1);
        due("two are gone", 6, x.count(7));
    }

    private void countStates() {
        of("Promise 21", "8: states in the history");
        FairBooks x = new FairBooks();
        int[] due = {0, 1, 2, 3, 4, 4, 4};
        for (int changes = 0; changes <= 6; changes++) {
            due("behind " + changes + " changes", due[changes], x.count(8));
            x.leaf(0);
        }
        for (int left = 3; left >= 0; left--) {
            x.undo();
            due("left", left, x.count(8));
        }
        x.undo();
        due("0 behind an undo() that is not possible", 0, x.count(8));
    }

    private void countText() {
        of("Promise 21", "9: the length of the text");
        FairBooks x = new FairBooks();
        for (int length = 0; length <= 60; length++) {
            due("count(9)", length, x.count(9));
            x.type('x');
        }
        due("60 behind LIMIT_REACHED", 60, x.count(9));
        x.leaf(0);
        x.undo();
        due("60 behind undo()", 60, x.count(9));
        x.clearText();
        due("0 behind clearText()", 0, x.count(9));
    }

    private void countNumber() {
        of("Promise 21", "Returns the number");
        FairBooks x = new FairBooks();
        for (int what = 0; what <= 9; what++) {
            due("count(" + what + ") of a new object", 0, x.count(what));
        }
    }

    private void countInvalid() {
        of("Promise 21", "INVALID_ARGUMENT if what is out of range.");
        FairBooks x = new FairBooks();
        due("count(-1)", INVALID, x.count(-1));
        due("count(10)", INVALID, x.count(10));
        due("count of the least number", INVALID, x.count(LEAST));
        due("count of the greatest number", INVALID, x.count(MOST));
    }

    private void undoRestores() {
        of("Promise 22", "Restores the latest state of the history, which is removed from it.");
        FairBooks x = new FairBooks();
        for (int coins = 1; coins <= 4; coins++) {
            x.coins(0, coins);
        }
        int[] due = {3, 2, 1, 100};
        for (int i = 0; i < 4; i++) {
            due("count(8)", 4 - i, x.count(8));
            x.undo();
            due("the latest state", due[i], x.collectorOf(0, 0));
            due("is removed", 3 - i, x.count(8));
        }
        FairBooks y = new FairBooks();
        y.coins(0, 1);
        y.coins(0, 2);
        y.undo();
        y.coins(0, 3);
        y.undo();
        due("behind undo() and a change", 1, y.collectorOf(0, 0));
        y.undo();
        due("what was undone does not come again", 100, y.collectorOf(0, 0));
        due("no more", NOT_POSSIBLE, y.undo());
        undoAmidChanges();
        FairBooks z = named(0);
        z.leaf(1);
        z.undo();
        z.leaf(2);
        due("the number of a leaf that is undone", 0, z.at(2, 0));
        z.sign(0, 0, 0);
        z.tear(0);
        z.undo();
        due("a leaf that was torn out is back", 2, z.leafOf(0, 0));
        due("with its entry", 0, z.pageOf(0, 0, 0));
    }

    private void undoAmidChanges() {
        FairBooks x = new FairBooks();
        for (int coins = 1; coins <= 5; coins++) {
            x.coins(0, coins);
        }
        x.undo();
        for (int coins = 6; coins <= 8; coins++) {
            x.coins(0, coins);
        }
        int[] due = {7, 6, 4, 3};
        for (int i = 0; i < 4; i++) {
            due("left of changes behind undo()", 3 - i, x.undo());
            due("coins behind " + (i + 1) + " more", due[i], x.collectorOf(0, 0));
        }
        due("all of them are undone", NOT_POSSIBLE, x.undo());
    }

    private void undoReturns() {
        of("Promise 22", "Returns the number of states that are left in the history");
        for (int changes = 1; changes <= 6; changes++) {
            FairBooks x = new FairBooks();
            for (int i = 0; i < changes; i++) {
                x.leaf(0);
            }
            for (int left = Math.min(changes, 4) - 1; left >= 0; left--) {
                due("undo() of " + changes + " changes", left, x.undo());
            }
            due("leaves that cannot be undone", Math.max(0, changes - 4), x.count(1));
        }
    }

    private void undoNotPossible() {
        of("Promise 22", "NOT_POSSIBLE if it is empty.");
        FairBooks x = new FairBooks();
        due("at first", NOT_POSSIBLE, x.undo());
        x.type('l');
        due("type is no change", NOT_POSSIBLE, x.undo());
        x.leaf(4);
        due("an error is no change", NOT_POSSIBLE, x.undo());
        x.leaf(0);
        due("a change", 0, x.undo());
        due("behind it", NOT_POSSIBLE, x.undo());
        for (int i = 0; i < 5; i++) {
            x.leaf(0);
        }
        for (int left = 3; left >= 0; left--) {
            due("four of five", left, x.undo());
        }
        due("the fifth", NOT_POSSIBLE, x.undo());
        due("stays", 1, x.count(1));
    }
}
