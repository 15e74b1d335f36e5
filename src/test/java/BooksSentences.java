/** Sentences of the promises 7 to 10: move, trade, tear, coins. */
final class BooksSentences extends Sentences {
    BooksSentences(Check check, Document document) {
        super(check, document);
    }

    @Override
    void all() {
        moveMoves();
        moveLeaf();
        movePlace();
        moveReturns();
        moveInvalid();
        moveTooFew();
        moveParts();
        tradeTrades();
        tradeOne();
        tradeOther();
        tradeCoins();
        tradeReturns();
        tradeInvalid();
        tradeSameBook();
        tradeTooFewCoins();
        tradeLeaves();
        tradeTooManyCoins();
        tearTears();
        tearLeaf();
        tearReturns();
        tearInvalid();
        coinsSets();
        coinsCollector();
        coinsCoins();
        coinsReturns();
        coinsInvalid();
    }

    /** A book of collector 0 with the bundles 0, 1 2, 3, 4 5 6 and 7. */
    private static FairBooks full() {
        FairBooks x = named(0);
        leaves(x, 0, 8);
        x.over(1, 0);
        x.over(4, 0);
        x.over(5, 0);
        return x;
    }

    private void moveMoves() {
        of("Promise 7", "Moves the bundle of a leaf within its book.");
        FairBooks x = full();
        x.leaf(1);
        x.sign(6, 1, 0);
        x.dedicate(6, 1, 2);
        x.move(5, 1);
        book("moved", x, 0, 0, 4, 5, 6, 1, 2, 3, 7);
        book("another book stays", x, 1, 8);
        due("the entry goes with it", 2, x.pageOf(6, 1, 1));
        due("the bundle goes with it", 3, x.leafOf(6, 2));
        due("the bundle at the old place", 1, x.leafOf(3, 2));
        due("the entries", 4, x.collectorOf(0, 2));
        x.move(5, 0);
        book("to the front", x, 0, 4, 5, 6, 0, 1, 2, 3, 7);
        x.move(4, 5);
        book("to the end", x, 0, 0, 1, 2, 3, 7, 4, 5, 6);
    }

    private void moveLeaf() {
        of("Promise 7", "`leaf`: number of the leaf");
        FairBooks x = full();
        for (int leaf : outside(0, 7)) {
            due("move(" + leaf + ", 0)", INVALID, x.move(leaf, 0));
        }
        due("the greatest number", 7, x.move(7, 0));
        due("the number 0", 1, x.move(0, 0));
        x.tear(0);
        due("a leaf that is gone", INVALID, x.move(0, 0));
    }

    private void movePlace() {
        of("Promise 7", "`place`: 0 or more: how many leaves of other bundles are ahead of it then");
        int[] places = {0, 1, 3, 4, 5};
        for (int place : places) {
            FairBooks x = full();
            x.tear(4);
            due("move(3, " + place + ")", place == 5 ? NOT_POSSIBLE : 3, x.move(3, place));
            due("its place then", place == 5 ? 3 : place, x.leafOf(3, 1));
        }
        int[] ofPair = {0, 1, 2, 5, 6};
        for (int place : ofPair) {
            FairBooks x = full();
            due("move(2, " + place + ")", 1, x.move(2, place));
            due("the place of its first one then", place, x.leafOf(1, 1));
            due("of its second one", place + 1, x.leafOf(2, 1));
        }
        FairBooks y = full();
        for (int place : below0()) {
            due("move(0, " + place + ")", INVALID, y.move(0, place));
        }
    }

    private void moveReturns() {
        of("Promise 7", "Returns the place that its first leaf had");
        FairBooks x = full();
        due("by its last one", 4, x.move(6, 0));
        due("by its middle one", 0, x.move(5, 5));
        due("by its first one", 5, x.move(4, 5));
        due("to the same place", 5, x.move(4, 5));
        due("one leaf, the first one", 0, x.move(0, 0));
        due("one leaf, another one", 4, x.move(7, 0));
    }

    private void moveInvalid() {
        of("Promise 7", "INVALID_ARGUMENT if there is no such leaf or place is below 0");
        FairBooks x = full();
        due("no such leaf", INVALID, x.move(8, 0));
        due("place -1", INVALID, x.move(0, -1));
        due("neither", INVALID, x.move(-1, -1));
        due("no such leaf, too great a place", INVALID, x.move(8, 8));
        book("nothing is moved", x, 0, 0, 1, 2, 3, 4, 5, 6, 7);
    }

    private void moveTooFew() {
        of("Promise 7", "NOT_POSSIBLE if there are not so many other leaves");
        FairBooks x = full();
        due("8 others than 0", NOT_POSSIBLE, x.move(0, 8));
        due("7 others than 0", 0, x.move(0, 7));
        due("7 others than 1 2", NOT_POSSIBLE, x.move(1, 7));
        due("6 others than 1 2", 0, x.move(1, 6));
        due("6 others than 4 5 6", NOT_POSSIBLE, x.move(5, 6));
        due("5 others than 4 5 6", 1, x.move(5, 5));
        int[] great = {9, 16, 256, 65536, MOST - 1, MOST};
        for (int place : great) {
            due("move(5, " + place + ")", NOT_POSSIBLE, x.move(5, place));
        }
        FairBooks y = new FairBooks();
        leaves(y, 1, 1);
        leaves(y, 2, 2);
        due("none in the book but others elsewhere", NOT_POSSIBLE, y.move(0, 1));
        due("none is enough for 0", 0, y.move(0, 0));
    }

    private void moveParts() {
        of("Promise 7", "or another bundle would be parted.");
        FairBooks x = full();
        due("between 1 and 2, from ahead", NOT_POSSIBLE, x.move(0, 1));
        due("between 1 and 2, from behind", NOT_POSSIBLE, x.move(3, 2));
        due("between 4 and 5", NOT_POSSIBLE, x.move(0, 4));
        due("between 5 and 6", NOT_POSSIBLE, x.move(0, 5));
        due("between 4 and 5, from behind", NOT_POSSIBLE, x.move(7, 5));
        due("between 5 and 6, a bundle", NOT_POSSIBLE, x.move(2, 4));
        due("between 1 and 2, a bundle", NOT_POSSIBLE, x.move(6, 2));
        book("nothing is moved", x, 0, 0, 1, 2, 3, 4, 5, 6, 7);
        due("behind 1 2", 0, x.move(0, 2));
        due("ahead of 4 5 6", 2, x.move(0, 3));
        due("behind 4 5 6", 3, x.move(0, 6));
    }

    /** The bundles 0 and 1 2 of collector 0, 3 4 5 of collector 1, and 6 of collector 2. */
    private static FairBooks three() {
        FairBooks x = named(0);
        leaves(x, 0, 3);
        leaves(x, 1, 3);
        leaves(x, 2, 1);
        x.over(1, 0);
        x.over(3, 0);
        x.over(4, 0);
        return x;
    }

    private void tradeTrades() {
        of("Promise 8", "Trades the bundles of two leaves.");
        FairBooks x = three();
        x.sign(2, 1, 0);
        x.dedicate(2, 1, 1);
        x.trade(2, 4, 0);
        book("three for two", x, 0, 0, 3, 4, 5);
        book("two for three", x, 1, 1, 2);
        book("another book stays", x, 2, 6);
        due("dedications go with it", 1, x.pageOf(2, 1, 1));
        due("their value for the new owner", 100, x.pageOf(2, 1, 3));
        due("entries over two pages go with it", 1, x.pageOf(4, 0, 2));
        due("trades so far", 1, x.count(3));
    }

    private void tradeOne() {
        of("Promise 8", "`one`: number of a leaf");
        FairBooks x = three();
        for (int leaf : outside(0, 6)) {
            due("trade(" + leaf + ", 3, 0)", INVALID, x.trade(leaf, 3, 0));
        }
        due("trade(6, 3, 0)", 4, x.trade(6, 3, 0));
        due("trade(0, 3, 0)", 4, x.trade(0, 3, 0));
        x.tear(0);
        due("a leaf that is gone", INVALID, x.trade(0, 3, 0));
    }

    private void tradeOther() {
        of("Promise 8", "`other`: number of a leaf");
        FairBooks x = three();
        for (int leaf : outside(0, 6)) {
            due("trade(3, " + leaf + ", 0)", INVALID, x.trade(3, leaf, 0));
        }
        due("trade(3, 6, 0)", 4, x.trade(3, 6, 0));
        due("trade(3, 0, 0)", 4, x.trade(3, 0, 0));
        x.tear(0);
        due("a leaf that is gone", INVALID, x.trade(3, 0, 0));
    }

    private void tradeCoins() {
        of("Promise 8", "`coins`: -9999 to 9999: what the owner of the first one pays to that of the other one");
        FairBooks x = three();
        for (int coins : outside(-9999, 9999)) {
            due("trade(0, 3, " + coins + ")", INVALID, x.trade(0, 3, coins));
        }
        x.coins(0, 9999);
        x.coins(1, 0);
        due("9999", 4, x.trade(0, 3, 9999));
        due("all of it", 0, x.collectorOf(0, 0));
        due("is there", 9999, x.collectorOf(1, 0));
        due("-9999", 4, x.trade(3, 0, -9999));
        due("all of it is back", 9999, x.collectorOf(0, 0));
        due("none is there", 0, x.collectorOf(1, 0));
        due("0", 4, x.trade(0, 3, 0));
        due("none is paid", 9999, x.collectorOf(0, 0));
    }

    private void tradeReturns() {
        of("Promise 8", "Returns how many leaves are traded");
        FairBooks x = three();
        due("one for one", 2, x.trade(0, 6, 0));
        due("two for three", 5, x.trade(1, 5, 0));
        due("three for one", 4, x.trade(3, 0, 0));
        FairBooks y = named(0);
        leaves(y, 0, 8);
        leaves(y, 1, 8);
        for (int i = 0; i < 7; i++) {
            y.over(i, 0);
            y.over(8 + i, 0);
        }
        due("8 for 8", 16, y.trade(7, 8, 0));
        book("8 there", y, 1, 0, 1, 2, 3, 4, 5, 6, 7);
    }

    private void tradeInvalid() {
        of("Promise 8", "INVALID_ARGUMENT if an argument is out of range");
        FairBooks x = three();
        due("no such first one", INVALID, x.trade(7, 3, 0));
        due("no such other one", INVALID, x.trade(3, 7, 0));
        due("neither", INVALID, x.trade(7, 7, 0));
        due("coins", INVALID, x.trade(0, 3, -10000));
        due("no trades", 0, x.count(3));
    }

    private void tradeSameBook() {
        of("Promise 8", "NOT_POSSIBLE if both are in the same book");
        FairBooks x = three();
        due("two bundles", NOT_POSSIBLE, x.trade(0, 1, 0));
        due("one bundle", NOT_POSSIBLE, x.trade(3, 5, 0));
        due("one leaf", NOT_POSSIBLE, x.trade(6, 6, 0));
        due("with coins", NOT_POSSIBLE, x.trade(0, 1, 5));
        x.trade(0, 6, 0);
        due("in the same book then", NOT_POSSIBLE, x.trade(6, 1, 0));
        due("no longer in the same book", 3, x.trade(0, 1, 0));
    }

    private void tradeTooFewCoins() {
        of("Promise 8", "or who pays has not so many coins");
        FairBooks x = three();
        due("101 of 100", NOT_POSSIBLE, x.trade(0, 3, 101));
        due("101 of 100 the other way", NOT_POSSIBLE, x.trade(0, 3, -101));
        due("9999 of 100", NOT_POSSIBLE, x.trade(0, 3, 9999));
        due("-9999 of 100", NOT_POSSIBLE, x.trade(0, 3, -9999));
        due("100 of 100", 4, x.trade(0, 3, 100));
        due("1 of 0", NOT_POSSIBLE, x.trade(3, 0, 1));
        due("0 of 0", 4, x.trade(3, 0, 0));
        due("200 of 200 the other way", 4, x.trade(0, 3, -200));
        due("none is left", 0, x.collectorOf(1, 0));
        due("1 of 0 the other way", NOT_POSSIBLE, x.trade(3, 0, -1));
    }

    private void tradeLeaves() {
        of("Promise 8", "LIMIT_REACHED if a book would have more than 8 leaves");
        FairBooks x = three();
        leaves(x, 2, 6);
        due("three for one in a book of 7, 9 leaves", LIMIT, x.trade(6, 3, 0));
        due("and the other way", LIMIT, x.trade(3, 6, 0));
        due("two for one in a book of 7, 8 leaves", 3, x.trade(6, 2, 0));
        due("8 leaves", 8, x.collectorOf(2, 1));
        due("three for two in a book of 8", LIMIT, x.trade(2, 3, 0));
        due("one for one in a book of 8", 2, x.trade(7, 0, 0));
        due("three for one in a book of 8, 10 leaves", LIMIT, x.trade(8, 4, 0));
        due("two for one out of a book of 8", 3, x.trade(1, 6, 0));
    }

    private void tradeTooManyCoins() {
        of("Promise 8", "or a collector more than 9999 coins.");
        FairBooks x = three();
        x.coins(0, 9999);
        due("10000 of the first one", LIMIT, x.trade(0, 3, -1));
        due("10000 of the other one", LIMIT, x.trade(3, 0, 1));
        due("0 coins", 4, x.trade(0, 3, 0));
        x.coins(0, 9998);
        due("9999 of the first one", 4, x.trade(3, 0, -1));
        due("9999", 9999, x.collectorOf(0, 0));
        x.coins(1, 9999);
        due("19998 of the other one", LIMIT, x.trade(0, 3, 9999));
        due("19998 of the first one", LIMIT, x.trade(0, 3, -9999));
        x.coins(1, 9990);
        due("10000 of the other one again", LIMIT, x.trade(0, 3, 10));
        due("9999 of the other one", 4, x.trade(0, 3, 9));
    }

    private void tearTears() {
        of("Promise 9", "Tears the bundle of a leaf out; it is gone.");
        FairBooks x = full();
        x.sign(3, 0, 0);
        x.tear(5);
        book("without 4 5 6", x, 0, 0, 1, 2, 3, 7);
        due("the first one is gone", INVALID, x.leafOf(4, 0));
        due("the middle one is gone", INVALID, x.leafOf(5, 0));
        due("the last one is gone", INVALID, x.leafOf(6, 0));
        due("their entries are gone", 2, x.count(2));
        due("the others stay", 2, x.leafOf(2, 2));
        due("leaves so far stay", 8, x.count(4));
        x.tear(0);
        book("without the first one", x, 0, 1, 2, 3, 7);
        x.tear(7);
        book("without the last one", x, 0, 1, 2, 3);
        x.tear(1);
        x.tear(3);
        book("none is left", x, 0);
        due("no worth is left", 0, x.collectorOf(0, 3));
        nothingOfItCounts();
    }

    private void nothingOfItCounts() {
        FairBooks x = named(0, 1);
        leaves(x, 0, 3);
        x.sign(0, 0, 0);
        x.sign(2, 0, 1);
        x.dedicate(2, 0, 0);
        x.sign(2, 1, 1);
        x.dedicate(2, 1, 3);
        x.tear(2);
        int[] of0 = {100, 2, 1, 125, 225, 1, 1, 2, 0};
        for (int what = 0; what <= 8; what++) {
            due("collectorOf(0, " + what + ") without it", of0[what], x.collectorOf(0, what));
        }
        due("entries of its name", 0, x.nameOf(1, 2));
        due("books with its name", 0, x.nameOf(1, 3));
        due("its name is missing", 2, x.missing(0, 1));
        due("the mean without it", Float.floatToIntBits(100f), x.mean(0));
        due("all entries without it", 1, x.count(2));
        due("all dedicated ones without it", 0, x.count(7));
    }

    private void tearLeaf() {
        of("Promise 9", "`leaf`: number of the leaf");
        FairBooks x = full();
        for (int leaf : outside(0, 7)) {
            due("tear(" + leaf + ")", INVALID, x.tear(leaf));
        }
        due("tear(7)", 1, x.tear(7));
        due("tear(0)", 1, x.tear(0));
        due("tear(0) once more", INVALID, x.tear(0));
    }

    private void tearReturns() {
        of("Promise 9", "Returns how many leaves are gone");
        FairBooks x = full();
        due("one", 1, x.tear(3));
        due("two, by the first one", 2, x.tear(1));
        due("three, by the last one", 3, x.tear(6));
        FairBooks y = named(0);
        leaves(y, 2, 8);
        for (int i = 0; i < 7; i++) {
            y.over(i, 0);
        }
        due("8", 8, y.tear(3));
        due("none is left", 0, y.count(1));
    }

    private void tearInvalid() {
        of("Promise 9", "INVALID_ARGUMENT.");
        FairBooks x = new FairBooks();
        due("no leaf at all", INVALID, x.tear(0));
        x.leaf(0);
        due("no such leaf", INVALID, x.tear(1));
        due("below 0", INVALID, x.tear(-1));
        due("nothing is gone", 1, x.count(1));
    }

    private void coinsSets() {
        of("Promise 10", "Sets the coins of a collector.");
        FairBooks x = new FairBooks();
        x.coins(2, 7);
        due("his", 7, x.collectorOf(2, 0));
        due("his wealth", 7, x.collectorOf(2, 4));
        for (int c = 0; c <= 3; c++) {
            due("those of " + c, c == 2 ? 7 : 100, x.collectorOf(c, 0));
        }
        x.coins(2, 8);
        due("they are set, not added", 8, x.collectorOf(2, 0));
    }

    private void coinsCollector() {
        of("Promise 10", "`collector`: 0 to 3");
        FairBooks x = new FairBooks();
        for (int c = 0; c <= 3; c++) {
            due("coins(" + c + ", " + c + ")", 100, x.coins(c, c));
        }
        for (int c = 0; c <= 3; c++) {
            due("those of " + c, c, x.collectorOf(c, 0));
        }
        for (int c : outside(0, 3)) {
            due("coins(" + c + ", 0)", INVALID, x.coins(c, 0));
        }
    }

    private void coinsCoins() {
        of("Promise 10", "`coins`: 0 to 9999");
        FairBooks x = new FairBooks();
        due("coins(0, 0)", 100, x.coins(0, 0));
        due("0", 0, x.collectorOf(0, 0));
        due("coins(0, 9999)", 0, x.coins(0, 9999));
        due("9999", 9999, x.collectorOf(0, 0));
        for (int coins : outside(0, 9999)) {
            due("coins(0, " + coins + ")", INVALID, x.coins(0, coins));
        }
    }

    private void coinsReturns() {
        of("Promise 10", "Returns what they were");
        FairBooks x = new FairBooks();
        due("at first", 100, x.coins(3, 9999));
        due("then", 9999, x.coins(3, 0));
        due("then 0", 0, x.coins(3, 1));
        due("the same", 1, x.coins(3, 1));
        x.leaf(3);
        x.leaf(0);
        x.trade(0, 1, 1);
        due("behind a trade", 0, x.coins(3, 5));
        x.undo();
        due("behind undo()", 0, x.coins(3, 5));
    }

    private void coinsInvalid() {
        of("Promise 10", "INVALID_ARGUMENT if an argument is out of range.");
        FairBooks x = new FairBooks();
        due("no such collector", INVALID, x.coins(4, 0));
        due("too few", INVALID, x.coins(0, -1));
        due("too many", INVALID, x.coins(0, 10000));
        due("both", INVALID, x.coins(-1, -1));
        due("as at first", 100, x.collectorOf(0, 0));
    }
}
