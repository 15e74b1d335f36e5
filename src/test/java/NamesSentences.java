/** Sentences of the promises 1 to 6: a new object, name, leaf, sign, over, dedicate. */
final class NamesSentences extends Sentences {
    NamesSentences(Check check, Document document) {
        super(check, document);
    }

    @Override
    void all() {
        newObject();
        nameAdds();
        nameFame();
        nameTheme();
        nameReturns();
        nameInvalid();
        nameLimit();
        leafAdds();
        leafCollector();
        leafReturns();
        leafInvalid();
        leafLimit();
        signSigns();
        signLeaf();
        signSide();
        signName();
        signReturns();
        signInvalid();
        signNotPossible();
        overSigns();
        overLeaf();
        overName();
        overReturns();
        overInvalid();
        overLast();
        overTaken();
        dedicateDedicates();
        dedicateLeaf();
        dedicateSide();
        dedicateCollector();
        dedicateReturns();
        dedicateInvalid();
        dedicateNotPossible();
    }

    private void newObject() {
        of("Promise 1", "Creates four empty books.");
        FairBooks x = new FairBooks();
        for (int c = 0; c < 4; c++) {
            due("at(" + c + ", 0)", NOT_FOUND, x.at(c, 0));
            for (int what = 1; what <= 8; what++) {
                due("collectorOf(" + c + ", " + what + ")", what == 4 ? 100 : 0, x.collectorOf(c, what));
            }
        }
        due("there is no fifth one", INVALID, x.at(4, 0));
        for (int what = 0; what <= 9; what++) {
            due("count(" + what + ")", 0, x.count(what));
        }
        x.leaf(0);
        due("another object has books of its own", 0, new FairBooks().count(1));
    }

    private void nameAdds() {
        of("Promise 2", "Adds a name.");
        FairBooks x = new FairBooks();
        x.name(7, 2);
        due("count(0)", 1, x.count(0));
        due("nameOf(0, 0)", 7, x.nameOf(0, 0));
        due("nameOf(0, 1)", 2, x.nameOf(0, 1));
        due("no entries", 0, x.nameOf(0, 2));
        x.name(7, 2);
        due("the same once more is another one", 2, x.count(0));
        due("missing(0, 2)", 3, x.missing(0, 2));
    }

    private void nameFame() {
        of("Promise 2", "`fame`: 1 to 50");
        FairBooks x = new FairBooks();
        due("name(1, 0)", 0, x.name(1, 0));
        due("name(50, 0)", 1, x.name(50, 0));
        due("fame 1", 1, x.nameOf(0, 0));
        due("fame 50", 50, x.nameOf(1, 0));
        for (int fame : outside(1, 50)) {
            due("name(" + fame + ", 0)", INVALID, x.name(fame, 0));
        }
    }

    private void nameTheme() {
        of("Promise 2", "`theme`: 0 to 3");
        FairBooks x = new FairBooks();
        for (int theme = 0; theme <= 3; theme++) {
            due("name(1, " + theme + ")", theme, x.name(1, theme));
            due("theme " + theme, theme, x.nameOf(theme, 1));
        }
        for (int theme : outside(0, 3)) {
            due("name(1, " + theme + ")", INVALID, x.name(1, theme));
        }
    }

    private void nameReturns() {
        of("Promise 2", "Returns its number");
        FairBooks x = new FairBooks();
        for (int name = 0; name < 16; name++) {
            due("the name " + name, name, x.name(50 - name, 3));
            due("its fame", 50 - name, x.nameOf(name, 0));
        }
        x.undo();
        x.undo();
        due("behind two undone", 14, x.name(1, 0));
    }

    private void nameInvalid() {
        of("Promise 2", "INVALID_ARGUMENT if an argument is out of range");
        FairBooks x = new FairBooks();
        due("fame 0", INVALID, x.name(0, 0));
        due("theme 4", INVALID, x.name(1, 4));
        due("both", INVALID, x.name(51, -1));
        due("count(0)", 0, x.count(0));
        due("the first one behind them", 0, x.name(1, 0));
    }

    private void nameLimit() {
        of("Promise 2", "LIMIT_REACHED if there are 16.");
        FairBooks x = new FairBooks();
        for (int name = 0; name < 15; name++) {
            x.name(1, 0);
        }
        due("the 16th", 15, x.name(1, 0));
        due("the 17th", LIMIT, x.name(1, 0));
        due("count(0)", 16, x.count(0));
        x.undo();
        due("the 16th behind undo()", 15, x.name(2, 1));
        due("the 17th again", LIMIT, x.name(50, 3));
    }

    private void leafAdds() {
        of("Promise 3", "Adds an empty leaf to a book, as its last one.");
        FairBooks x = named(0);
        leaves(x, 0, 2);
        x.sign(1, 0, 0);
        x.sign(1, 1, 0);
        x.leaf(0);
        book("the last one", x, 0, 0, 1, 2);
        x.move(0, 2);
        x.leaf(0);
        book("the last one by places", x, 0, 1, 2, 0, 3);
        FairBooks y = named(0);
        leaves(y, 0, 3);
        y.sign(0, 1, 0);
        y.over(1, 0);
        y.sign(2, 1, 0);
        due("tear(2)", 2, y.tear(2));
        leaves(y, 0, 2);
        for (int leaf = 3; leaf <= 4; leaf++) {
            due("the front of " + leaf + " is empty where another one was not", NOT_FOUND, y.pageOf(leaf, 0, 0));
            due("and so its back", NOT_FOUND, y.pageOf(leaf, 1, 0));
            due("its bundle", 1, y.leafOf(leaf, 2));
        }
    }

    private void leafCollector() {
        of("Promise 3", "`collector`: 0 to 3");
        FairBooks x = new FairBooks();
        for (int c = 0; c <= 3; c++) {
            due("leaf(" + c + ")", c, x.leaf(c));
            due("its collector", c, x.leafOf(c, 0));
        }
        for (int c : outside(0, 3)) {
            due("leaf(" + c + ")", INVALID, x.leaf(c));
        }
    }

    private void leafReturns() {
        of("Promise 3", "Returns its number");
        FairBooks x = new FairBooks();
        for (int leaf = 0; leaf < 32; leaf++) {
            due("leaf(" + leaf % 4 + ")", leaf, x.leaf(leaf % 4));
            due("it is there", leaf / 4, x.leafOf(leaf, 1));
        }
        x.tear(31);
        due("behind a torn one", 32, x.leaf(3));
    }

    private void leafInvalid() {
        of("Promise 3", "INVALID_ARGUMENT");
        FairBooks x = new FairBooks();
        due("leaf(-1)", INVALID, x.leaf(-1));
        due("leaf(4)", INVALID, x.leaf(4));
        due("no leaves", 0, x.count(1));
        due("no leaves so far", 0, x.count(4));
    }

    private void leafLimit() {
        of("Promise 3", "LIMIT_REACHED if the book has 8 leaves.");
        for (int c = 0; c <= 3; c++) {
            FairBooks x = new FairBooks();
            leaves(x, c, 7);
            due("the 8th of " + c, 7, x.leaf(c));
            due("the 9th of " + c, LIMIT, x.leaf(c));
            due("another book", 8, x.leaf((c + 1) % 4));
            x.tear(3);
            due("the 8th again", 9, x.leaf(c));
            due("the 9th again", LIMIT, x.leaf(c));
        }
    }

    private void signSigns() {
        of("Promise 4", "Lets a name sign a page.");
        FairBooks x = named(0, 1);
        leaves(x, 1, 2);
        x.sign(1, 0, 1);
        due("the name", 1, x.pageOf(1, 0, 0));
        due("not dedicated", NOT_FOUND, x.pageOf(1, 0, 1));
        due("not over two pages", 0, x.pageOf(1, 0, 2));
        due("one entry", 1, x.count(2));
        due("the other page is empty", NOT_FOUND, x.pageOf(1, 1, 0));
        due("the other leaf is empty", NOT_FOUND, x.pageOf(0, 0, 0));
        x.dedicate(1, 0, 0);
        x.tear(1);
        x.leaf(1);
        x.sign(2, 0, 0);
        due("not dedicated, where a dedicated one was", NOT_FOUND, x.pageOf(2, 0, 1));
    }

    private void signLeaf() {
        of("Promise 4", "`leaf`: number of the leaf");
        FairBooks x = named(0);
        x.leaf(0);
        x.leaf(3);
        due("sign(0, 0, 0)", 125, x.sign(0, 0, 0));
        due("sign(1, 0, 0)", 125, x.sign(1, 0, 0));
        for (int leaf : outside(0, 1)) {
            due("sign(" + leaf + ", 1, 0)", INVALID, x.sign(leaf, 1, 0));
        }
        x.tear(0);
        due("a leaf that is gone", INVALID, x.sign(0, 1, 0));
    }

    private void signSide() {
        of("Promise 4", "`side`: 0: the front; 1: the back");
        FairBooks x = named(0);
        leaves(x, 0, 2);
        x.sign(0, 1, 0);
        x.sign(0, 0, 0);
        due("the front is ahead of the back", 100, x.pageOf(0, 0, 3));
        due("the back is the further one", 50, x.pageOf(0, 1, 3));
        due("over the back", NOT_POSSIBLE, x.over(0, 0));
        for (int side : outside(0, 1)) {
            due("sign(1, " + side + ", 0)", INVALID, x.sign(1, side, 0));
        }
    }

    private void signName() {
        of("Promise 4", "`name`: number of the name");
        FairBooks x = new FairBooks();
        for (int name = 0; name < 16; name++) {
            x.name(1, 0);
        }
        x.leaf(0);
        due("sign(0, 0, 15)", 10, x.sign(0, 0, 15));
        due("sign(0, 1, 0)", 20, x.sign(0, 1, 0));
        x.leaf(0);
        for (int name : outside(0, 15)) {
            due("sign(1, 0, " + name + ")", INVALID, x.sign(1, 0, name));
        }
        FairBooks y = named(0);
        y.leaf(0);
        due("sign(0, 0, 1), the name has not come", INVALID, y.sign(0, 0, 1));
    }

    private void signReturns() {
        of("Promise 4", "Returns the worth of the book then");
        FairBooks x = new FairBooks();
        x.name(1, 0);
        x.name(50, 1);
        x.name(50, 1);
        leaves(x, 2, 2);
        x.coins(2, 5000);
        due("one entry", 500, x.sign(1, 1, 1));
        due("with a whole theme, without coins", 500 + 10 + 25, x.sign(0, 0, 0));
        due("with another one", 500 + 10 + 25 + 500 + 50, x.sign(1, 0, 2));
        due("with a double ahead", 500 + 10 + 25 + 500 + 50 + 250, x.sign(0, 1, 2));
        due("collectorOf(2, 3) too", 1335, x.collectorOf(2, 3));
    }

    private void signInvalid() {
        of("Promise 4", "INVALID_ARGUMENT if an argument is out of range");
        FairBooks x = named(0);
        due("no leaf at all", INVALID, x.sign(0, 0, 0));
        x.leaf(0);
        due("no such leaf", INVALID, x.sign(1, 0, 0));
        due("no such side", INVALID, x.sign(0, 2, 0));
        due("no such name", INVALID, x.sign(0, 0, 1));
        due("none of them", INVALID, x.sign(-1, -1, -1));
        due("nothing is signed", 0, x.count(2));
    }

    private void signNotPossible() {
        of("Promise 4", "NOT_POSSIBLE if there is an entry on the page.");
        FairBooks x = named(0, 0);
        leaves(x, 0, 3);
        x.sign(0, 0, 0);
        x.over(1, 0);
        due("a front", NOT_POSSIBLE, x.sign(0, 0, 1));
        due("by the same name", NOT_POSSIBLE, x.sign(0, 0, 0));
        due("a back with an entry over two pages", NOT_POSSIBLE, x.sign(1, 1, 1));
        due("the next front", NOT_POSSIBLE, x.sign(2, 0, 1));
        due("a free back", 100 + 100 + 75 + 50, x.sign(0, 1, 1));
        due("a free front", 100 + 100 + 50 + 75 + 50, x.sign(1, 0, 1));
        due("a free back of the next leaf", 100 + 100 + 50 + 75 + 50 + 50, x.sign(2, 1, 1));
        x.tear(0);
        x.leaf(0);
        due("a page of a new leaf", 100 + 150 + 50 + 50 + 50, x.sign(3, 0, 1));
    }

    private void overSigns() {
        of("Promise 5", "Lets a name sign over the back of a leaf and the front of the next one.");
        FairBooks x = named(0, 1);
        leaves(x, 0, 3);
        x.over(1, 1);
        due("the back", 1, x.pageOf(1, 1, 0));
        due("the next front", 1, x.pageOf(2, 0, 0));
        due("the back is over two pages", 1, x.pageOf(1, 1, 2));
        due("the front is over two pages", 1, x.pageOf(2, 0, 2));
        due("not dedicated", NOT_FOUND, x.pageOf(1, 1, 1));
        due("the next front neither", NOT_FOUND, x.pageOf(2, 0, 1));
        due("the front of the leaf is empty", NOT_FOUND, x.pageOf(1, 0, 0));
        due("the back of the next one is empty", NOT_FOUND, x.pageOf(2, 1, 0));
        due("one entry", 1, x.collectorOf(0, 2));
        due("its value counts once", 150 + 25, x.collectorOf(0, 3));
    }

    private void overLeaf() {
        of("Promise 5", "`leaf`: number of the leaf");
        FairBooks x = named(0);
        leaves(x, 2, 2);
        leaves(x, 0, 2);
        for (int leaf : outside(0, 3)) {
            due("over(" + leaf + ", 0)", INVALID, x.over(leaf, 0));
        }
        due("over(0, 0)", 2, x.over(0, 0));
        due("over(2, 0)", 2, x.over(2, 0));
        x.tear(0);
        due("a leaf that is gone", INVALID, x.over(0, 0));
    }

    private void overName() {
        of("Promise 5", "`name`: number of the name");
        FairBooks x = new FairBooks();
        leaves(x, 0, 3);
        due("no name at all", INVALID, x.over(0, 0));
        for (int name = 0; name < 16; name++) {
            x.name(1, 0);
        }
        for (int name : outside(0, 15)) {
            due("over(0, " + name + ")", INVALID, x.over(0, name));
        }
        due("over(0, 15)", 2, x.over(0, 15));
        due("over(1, 0)", 3, x.over(1, 0));
    }

    private void overReturns() {
        of("Promise 5", "Returns how many leaves the bundle has then");
        FairBooks x = named(0);
        leaves(x, 0, 8);
        due("two", 2, x.over(0, 0));
        due("two others", 2, x.over(6, 0));
        due("two behind the first two", 2, x.over(2, 0));
        due("the first four", 4, x.over(1, 0));
        due("two more", 2, x.over(4, 0));
        due("the last four", 4, x.over(5, 0));
        due("all 8", 8, x.over(3, 0));
    }

    private void overInvalid() {
        of("Promise 5", "INVALID_ARGUMENT");
        FairBooks x = named(0);
        due("no leaf at all", INVALID, x.over(0, 0));
        leaves(x, 0, 2);
        due("no such leaf", INVALID, x.over(2, 0));
        due("no such name", INVALID, x.over(0, 1));
        due("neither", INVALID, x.over(-1, -1));
        due("nothing is signed", 0, x.count(2));
    }

    private void overLast() {
        of("Promise 5", "NOT_POSSIBLE if the leaf is the last one of its book");
        FairBooks x = named(0);
        x.leaf(0);
        x.leaf(1);
        due("the only one", NOT_POSSIBLE, x.over(0, 0));
        leaves(x, 0, 7);
        due("the last one of 8", NOT_POSSIBLE, x.over(8, 0));
        due("the last but one of 8", 2, x.over(7, 0));
        x.move(7, 0);
        due("the last one behind a move", NOT_POSSIBLE, x.over(6, 0));
        due("no longer the last one", 3, x.over(8, 0));
        x.tear(6);
        due("the last one behind it is gone", NOT_POSSIBLE, x.over(5, 0));
    }

    private void overTaken() {
        of("Promise 5", "or there is an entry on one of both pages.");
        FairBooks x = named(0);
        leaves(x, 0, 6);
        x.sign(0, 1, 0);
        due("on the back", NOT_POSSIBLE, x.over(0, 0));
        x.sign(2, 0, 0);
        due("on the next front", NOT_POSSIBLE, x.over(1, 0));
        x.sign(1, 1, 0);
        due("on both", NOT_POSSIBLE, x.over(1, 0));
        x.sign(3, 0, 0);
        x.sign(4, 1, 0);
        due("on the other pages", 2, x.over(3, 0));
        due("over both already", NOT_POSSIBLE, x.over(3, 0));
        due("no more entries", 6, x.count(2));
    }

    private void dedicateDedicates() {
        of("Promise 6", "Dedicates the entry on a page.");
        FairBooks x = named(0);
        leaves(x, 0, 2);
        x.sign(0, 0, 0);
        x.over(0, 0);
        x.sign(1, 1, 0);
        x.dedicate(0, 0, 2);
        due("to whom", 2, x.pageOf(0, 0, 1));
        due("no other one", NOT_FOUND, x.pageOf(0, 1, 1));
        due("one is dedicated", 1, x.count(7));
        x.dedicate(1, 0, 3);
        due("over two pages, by the second one", 3, x.pageOf(1, 0, 1));
        due("it is the same on the first one", 3, x.pageOf(0, 1, 1));
        due("two are dedicated", 2, x.count(7));
        due("the last one is not", NOT_FOUND, x.pageOf(1, 1, 1));
    }

    private void dedicateLeaf() {
        of("Promise 6", "`leaf`: number of the leaf");
        FairBooks x = named(0);
        x.leaf(3);
        x.leaf(0);
        x.sign(0, 0, 0);
        x.sign(1, 0, 0);
        for (int leaf : outside(0, 1)) {
            due("dedicate(" + leaf + ", 0, 0)", INVALID, x.dedicate(leaf, 0, 0));
        }
        due("dedicate(0, 0, 0)", 75, x.dedicate(0, 0, 0));
        due("dedicate(1, 0, 0)", 225, x.dedicate(1, 0, 0));
        x.tear(1);
        due("a leaf that is gone", INVALID, x.dedicate(1, 0, 0));
    }

    private void dedicateSide() {
        of("Promise 6", "`side`: 0 or 1");
        FairBooks x = named(0);
        x.leaf(0);
        x.sign(0, 0, 0);
        x.sign(0, 1, 0);
        for (int side : outside(0, 1)) {
            due("dedicate(0, " + side + ", 0)", INVALID, x.dedicate(0, side, 0));
        }
        due("dedicate(0, 1, 0)", 225, x.dedicate(0, 1, 0));
        due("dedicate(0, 0, 1)", 175, x.dedicate(0, 0, 1));
    }

    private void dedicateCollector() {
        of("Promise 6", "`collector`: 0 to 3");
        for (int c = 0; c <= 3; c++) {
            FairBooks x = named(0);
            x.leaf(2);
            x.sign(0, 0, 0);
            for (int none : outside(0, 3)) {
                due("dedicate(0, 0, " + none + ")", INVALID, x.dedicate(0, 0, none));
            }
            due("dedicate(0, 0, " + c + ")", c == 2 ? 225 : 75, x.dedicate(0, 0, c));
            due("to whom", c, x.pageOf(0, 0, 1));
        }
    }

    private void dedicateReturns() {
        of("Promise 6", "Returns the worth of the book then");
        FairBooks x = named(0, 1);
        leaves(x, 1, 2);
        x.leaf(0);
        x.sign(2, 0, 0);
        x.sign(0, 0, 1);
        x.over(0, 1);
        x.sign(1, 1, 0);
        due("the owner's, the first one", 200 + 75 + 100 + 50, x.dedicate(0, 0, 1));
        due("another one's, a further one over two pages", 200 + 37 + 100 + 50, x.dedicate(0, 1, 0));
        due("another one's", 200 + 37 + 50 + 50, x.dedicate(1, 1, 3));
    }

    private void dedicateInvalid() {
        of("Promise 6", "INVALID_ARGUMENT if an argument is out of range");
        FairBooks x = named(0);
        due("no leaf at all", INVALID, x.dedicate(0, 0, 0));
        x.leaf(0);
        x.sign(0, 0, 0);
        due("no such leaf", INVALID, x.dedicate(1, 0, 0));
        due("no such side", INVALID, x.dedicate(0, 2, 0));
        due("no such collector", INVALID, x.dedicate(0, 0, 4));
        due("none of them", INVALID, x.dedicate(-1, -1, -1));
        due("nothing is dedicated", 0, x.count(7));
    }

    private void dedicateNotPossible() {
        of("Promise 6", "NOT_POSSIBLE if there is no entry, or it is dedicated.");
        FairBooks x = named(0);
        leaves(x, 0, 2);
        due("no entry on the front", NOT_POSSIBLE, x.dedicate(0, 0, 0));
        due("no entry on the back", NOT_POSSIBLE, x.dedicate(0, 1, 0));
        x.sign(0, 0, 0);
        due("no entry on the back still", NOT_POSSIBLE, x.dedicate(0, 1, 0));
        due("not dedicated yet", 225, x.dedicate(0, 0, 0));
        due("to the same one", NOT_POSSIBLE, x.dedicate(0, 0, 0));
        due("to another one", NOT_POSSIBLE, x.dedicate(0, 0, 3));
        x.over(0, 0);
        due("over two pages, by the first one", 200 + 37 + 25, x.dedicate(0, 1, 1));
        due("by the second one it is dedicated", NOT_POSSIBLE, x.dedicate(1, 0, 2));
        due("to whom", 1, x.pageOf(1, 0, 1));
        FairBooks y = named(0);
        leaves(y, 0, 2);
        y.over(0, 0);
        due("over two pages, by the second one", 325, y.dedicate(1, 0, 0));
        due("by the first one it is dedicated", NOT_POSSIBLE, y.dedicate(0, 1, 0));
    }
}
