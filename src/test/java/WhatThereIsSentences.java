/** Sentences of the promises 11 to 15: pageOf, leafOf, at, collectorOf, nameOf. */
final class WhatThereIsSentences extends Sentences {
    WhatThereIsSentences(Check check, Document document) {
        super(check, document);
    }

    @Override
    void all() {
        pageOfReturns();
        pageOfLeaf();
        pageOfSide();
        pageOfWhat();
        pageOfNumber();
        pageOfInvalid();
        pageOfNoEntry();
        pageOfNotDedicated();
        leafOfReturns();
        leafOfLeaf();
        leafOfWhat();
        leafOfNumber();
        leafOfInvalid();
        atReturns();
        atCollector();
        atPlace();
        atLeaf();
        atInvalid();
        atNotFound();
        collectorOfReturns();
        collectorOfCollector();
        collectorOfWhat();
        collectorOfNumber();
        collectorOfInvalid();
        nameOfReturns();
        nameOfName();
        nameOfWhat();
        nameOfNumber();
        nameOfInvalid();
    }

    /** Collector 0: leaf 0, and 1 2 with an entry over both; collector 2: leaf 3. Names 0 and 1 of theme 0, 2 of theme 3. */
    private static FairBooks some() {
        FairBooks x = named(0, 0, 3);
        leaves(x, 0, 3);
        leaves(x, 2, 1);
        x.sign(0, 1, 1);
        x.over(1, 1);
        x.dedicate(2, 0, 0);
        x.sign(3, 0, 2);
        x.dedicate(3, 0, 1);
        return x;
    }

    private void asBefore(FairBooks x, long before) {
        due("nothing is changed", before, picture(x));
        due("count(8)", 4, x.count(8));
    }

    private void pageOfReturns() {
        of("Promise 11", "Returns something of a page.");
        FairBooks x = some();
        long before = picture(x);
        due("pageOf(0, 1, 0)", 1, x.pageOf(0, 1, 0));
        due("pageOf(0, 0, 0)", NOT_FOUND, x.pageOf(0, 0, 0));
        due("pageOf(4, 0, 0)", INVALID, x.pageOf(4, 0, 0));
        asBefore(x, before);
    }

    private void pageOfLeaf() {
        of("Promise 11", "`leaf`: number of the leaf");
        FairBooks x = some();
        due("pageOf(3, 0, 0)", 2, x.pageOf(3, 0, 0));
        for (int leaf : outside(0, 3)) {
            due("pageOf(" + leaf + ", 0, 0)", INVALID, x.pageOf(leaf, 0, 0));
        }
        x.tear(1);
        due("pageOf(1, 1, 0) of a leaf that is gone", INVALID, x.pageOf(1, 1, 0));
        due("pageOf(2, 0, 0) of one that went with it", INVALID, x.pageOf(2, 0, 0));
    }

    private void pageOfSide() {
        of("Promise 11", "`side`: 0 or 1");
        FairBooks x = some();
        due("the front", NOT_FOUND, x.pageOf(0, 0, 0));
        due("the back", 1, x.pageOf(0, 1, 0));
        due("another front", 2, x.pageOf(3, 0, 0));
        due("another back", NOT_FOUND, x.pageOf(3, 1, 0));
        for (int side : outside(0, 1)) {
            due("pageOf(1, " + side + ", 0)", INVALID, x.pageOf(1, side, 0));
        }
    }

    private void pageOfWhat() {
        of("Promise 11", "`what`: 0: the name; 1: the collector to whom it is dedicated; 2: 1 if it is over two pages, otherwise 0; "
            + "3: its value for the owner of the book, as it counts there");
        FairBooks x = some();
        int[] plain = {1, NOT_FOUND, 0, 100};
        int[] wide = {1, 0, 1, 150};
        int[] strange = {2, 1, 0, 50};
        for (int what = 0; what <= 3; what++) {
            due("pageOf(0, 1, " + what + ")", plain[what], x.pageOf(0, 1, what));
            due("pageOf(1, 1, " + what + ")", wide[what], x.pageOf(1, 1, what));
            due("pageOf(2, 0, " + what + ")", wide[what], x.pageOf(2, 0, what));
            due("pageOf(3, 0, " + what + ")", strange[what], x.pageOf(3, 0, what));
        }
        for (int what : outside(0, 3)) {
            due("pageOf(0, 1, " + what + ")", INVALID, x.pageOf(0, 1, what));
        }
    }

    private void pageOfNumber() {
        of("Promise 11", "Returns the number");
        FairBooks x = new FairBooks();
        for (int name = 0; name < 16; name++) {
            x.name(name < 15 ? 1 : 50, 0);
        }
        leaves(x, 3, 2);
        x.sign(0, 0, 0);
        x.over(0, 15);
        x.sign(1, 1, 0);
        x.dedicate(0, 0, 3);
        x.dedicate(0, 1, 3);
        x.dedicate(1, 1, 0);
        due("the least name", 0, x.pageOf(0, 0, 0));
        due("the greatest name", 15, x.pageOf(0, 1, 0));
        due("the least collector", 0, x.pageOf(1, 1, 1));
        due("the greatest collector", 3, x.pageOf(0, 0, 1));
        due("the least value", 2, x.pageOf(1, 1, 3));
        due("the greatest value", 1500, x.pageOf(0, 1, 3));
        due("the greatest value by its second page", 1500, x.pageOf(1, 0, 3));
    }

    private void pageOfInvalid() {
        of("Promise 11", "INVALID_ARGUMENT if an argument is out of range");
        FairBooks x = some();
        due("no leaf at all", INVALID, new FairBooks().pageOf(0, 0, 0));
        due("no such leaf", INVALID, x.pageOf(4, 0, 0));
        due("no such side", INVALID, x.pageOf(0, 2, 0));
        due("no such what", INVALID, x.pageOf(0, 1, 4));
        due("none of them", INVALID, x.pageOf(-1, -1, -1));
        due("no such what of an empty page", INVALID, x.pageOf(0, 0, 4));
    }

    private void pageOfNoEntry() {
        of("Promise 11", "NOT_FOUND if there is no entry");
        FairBooks x = some();
        for (int what = 0; what <= 3; what++) {
            due("pageOf(0, 0, " + what + ")", NOT_FOUND, x.pageOf(0, 0, what));
            due("pageOf(1, 0, " + what + "), the front ahead of one over two pages", NOT_FOUND, x.pageOf(1, 0, what));
            due("pageOf(2, 1, " + what + "), the back behind it", NOT_FOUND, x.pageOf(2, 1, what));
        }
        x.sign(0, 0, 0);
        due("pageOf(0, 0, 0) when it is signed", 0, x.pageOf(0, 0, 0));
        x.undo();
        due("pageOf(0, 0, 0) behind undo()", NOT_FOUND, x.pageOf(0, 0, 0));
    }

    private void pageOfNotDedicated() {
        of("Promise 11", "for 1 if it is not dedicated.");
        FairBooks x = some();
        x.over(0, 0);
        due("pageOf(0, 1, 1)", NOT_FOUND, x.pageOf(0, 1, 1));
        x.sign(0, 0, 0);
        due("pageOf(0, 0, 1)", NOT_FOUND, x.pageOf(0, 0, 1));
        due("pageOf(0, 0, 0)", 0, x.pageOf(0, 0, 0));
        x.dedicate(0, 0, 0);
        due("pageOf(0, 0, 1) when it is dedicated to 0", 0, x.pageOf(0, 0, 1));
        x.undo();
        due("pageOf(0, 0, 1) behind undo()", NOT_FOUND, x.pageOf(0, 0, 1));
    }

    private void leafOfReturns() {
        of("Promise 12", "Returns something of a leaf.");
        FairBooks x = some();
        long before = picture(x);
        due("leafOf(2, 1)", 2, x.leafOf(2, 1));
        due("leafOf(4, 0)", INVALID, x.leafOf(4, 0));
        asBefore(x, before);
    }

    private void leafOfLeaf() {
        of("Promise 12", "`leaf`: number of the leaf");
        FairBooks x = some();
        due("leafOf(0, 0)", 0, x.leafOf(0, 0));
        due("leafOf(3, 0)", 2, x.leafOf(3, 0));
        for (int leaf : outside(0, 3)) {
            due("leafOf(" + leaf + ", 0)", INVALID, x.leafOf(leaf, 0));
        }
        x.tear(0);
        due("leafOf(0, 0) of a leaf that is gone", INVALID, x.leafOf(0, 0));
        due("the next one moves up", 0, x.leafOf(1, 1));
    }

    private void leafOfWhat() {
        of("Promise 12", "`what`: 0: its collector; 1: its place; 2: how many leaves its bundle has; 3: the place of the first one of these");
        FairBooks x = some();
        int[][] due = {{0, 0, 1, 0}, {0, 1, 2, 1}, {0, 2, 2, 1}, {2, 0, 1, 0}};
        for (int leaf = 0; leaf <= 3; leaf++) {
            for (int what = 0; what <= 3; what++) {
                due("leafOf(" + leaf + ", " + what + ")", due[leaf][what], x.leafOf(leaf, what));
            }
        }
        for (int what : outside(0, 3)) {
            due("leafOf(0, " + what + ")", INVALID, x.leafOf(0, what));
        }
    }

    private void leafOfNumber() {
        of("Promise 12", "Returns the number");
        FairBooks x = named(0);
        leaves(x, 3, 8);
        int[] alone = {3, 7, 1, 7};
        for (int what = 0; what <= 3; what++) {
            due("leafOf(7, " + what + ")", alone[what], x.leafOf(7, what));
        }
        for (int leaf = 6; leaf >= 0; leaf--) {
            x.over(leaf, 0);
            due("leafOf(7, 2) with " + leaf, 8 - leaf, x.leafOf(7, 2));
            due("leafOf(7, 3) with " + leaf, leaf, x.leafOf(7, 3));
        }
        due("leafOf(0, 2)", 8, x.leafOf(0, 2));
        due("leafOf(7, 1)", 7, x.leafOf(7, 1));
    }

    private void leafOfInvalid() {
        of("Promise 12", "INVALID_ARGUMENT if an argument is out of range.");
        FairBooks x = some();
        due("no leaf at all", INVALID, new FairBooks().leafOf(0, 0));
        due("no such leaf", INVALID, x.leafOf(4, 0));
        due("no such what", INVALID, x.leafOf(0, 4));
        due("neither", INVALID, x.leafOf(-1, -1));
    }

    private void atReturns() {
        of("Promise 13", "Returns a leaf of a book.");
        FairBooks x = some();
        long before = picture(x);
        due("at(0, 2)", 2, x.at(0, 2));
        due("at(0, 3)", NOT_FOUND, x.at(0, 3));
        due("at(4, 0)", INVALID, x.at(4, 0));
        asBefore(x, before);
    }

    private void atCollector() {
        of("Promise 13", "`collector`: 0 to 3");
        FairBooks x = new FairBooks();
        for (int c = 3; c >= 0; c--) {
            x.leaf(c);
        }
        for (int c = 0; c <= 3; c++) {
            due("at(" + c + ", 0)", 3 - c, x.at(c, 0));
        }
        for (int c : outside(0, 3)) {
            due("at(" + c + ", 0)", INVALID, x.at(c, 0));
        }
    }

    private void atPlace() {
        of("Promise 13", "`place`: 0 or more");
        FairBooks x = new FairBooks();
        leaves(x, 1, 8);
        due("at(1, 0)", 0, x.at(1, 0));
        due("at(1, 7)", 7, x.at(1, 7));
        for (int place : below0()) {
            due("at(1, " + place + ")", INVALID, x.at(1, place));
            due("at(2, " + place + ") of an empty book", INVALID, x.at(2, place));
        }
    }

    private void atLeaf() {
        of("Promise 13", "Returns the leaf");
        FairBooks x = some();
        x.move(0, 2);
        book("behind a move", x, 0, 1, 2, 0);
        x.trade(1, 3, 0);
        book("behind a trade", x, 0, 3, 0);
        book("behind a trade, the other one", x, 2, 1, 2);
        x.tear(3);
        book("behind tear(3)", x, 0, 0);
    }

    private void atInvalid() {
        of("Promise 13", "INVALID_ARGUMENT if an argument is out of range");
        FairBooks x = some();
        due("no such collector", INVALID, x.at(-1, 0));
        due("no such place", INVALID, x.at(0, -1));
        due("neither", INVALID, x.at(4, -1));
        due("no such collector, a place behind all", INVALID, x.at(4, 8));
    }

    private void atNotFound() {
        of("Promise 13", "NOT_FOUND if there are not so many.");
        FairBooks x = some();
        int[] behind = {3, 4, 7, 8, 15, 16, 17, 256, 65536, 1 << 30, MOST - 1, MOST};
        for (int place : behind) {
            due("at(0, " + place + ")", NOT_FOUND, x.at(0, place));
        }
        due("at(1, 0) of an empty book", NOT_FOUND, x.at(1, 0));
        due("at(2, 1)", NOT_FOUND, x.at(2, 1));
        leaves(x, 0, 5);
        due("at(0, 8) of a full book", NOT_FOUND, x.at(0, 8));
        x.tear(2);
        due("at(0, 6) when two are gone", NOT_FOUND, x.at(0, 6));
        due("at(0, 5) when two are gone", 8, x.at(0, 5));
    }

    private void collectorOfReturns() {
        of("Promise 14", "Returns something of a collector.");
        FairBooks x = some();
        long before = picture(x);
        due("collectorOf(0, 1)", 3, x.collectorOf(0, 1));
        due("collectorOf(0, 9)", INVALID, x.collectorOf(0, 9));
        asBefore(x, before);
    }

    private void collectorOfCollector() {
        of("Promise 14", "`collector`: 0 to 3");
        FairBooks x = new FairBooks();
        for (int c = 0; c <= 3; c++) {
            x.coins(c, 10 + c);
        }
        for (int c = 0; c <= 3; c++) {
            due("collectorOf(" + c + ", 0)", 10 + c, x.collectorOf(c, 0));
        }
        for (int c : outside(0, 3)) {
            due("collectorOf(" + c + ", 0)", INVALID, x.collectorOf(c, 0));
        }
    }

    private void collectorOfWhat() {
        of("Promise 14", "`what`: 0: coins; 1: leaves; 2: entries (one over two pages is one); 3: the worth of the book; 4: the wealth; "
            + "5: names in the book, as a set; 6: whole themes, as bits; 7: bundles; 8: entries of the book that are dedicated to the collector");
        FairBooks x = some();
        x.coins(2, 7);
        int[] of0 = {100, 3, 2, 100 + 150, 350, 2, 0, 2, 1};
        int[] of1 = {100, 0, 0, 0, 100, 0, 0, 0, 0};
        int[] of2 = {7, 1, 1, 50 + 25, 82, 4, 8, 1, 0};
        for (int what = 0; what <= 8; what++) {
            due("collectorOf(0, " + what + ")", of0[what], x.collectorOf(0, what));
            due("collectorOf(1, " + what + ")", of1[what], x.collectorOf(1, what));
            due("collectorOf(2, " + what + ")", of2[what], x.collectorOf(2, what));
        }
        for (int what : outside(0, 8)) {
            due("collectorOf(0, " + what + ")", INVALID, x.collectorOf(0, what));
        }
    }

    private void collectorOfNumber() {
        of("Promise 14", "Returns the number");
        FairBooks x = new FairBooks();
        for (int name = 0; name < 16; name++) {
            x.name(50, name % 4);
        }
        leaves(x, 3, 8);
        int least = 0;
        for (int page = 0; page < 16; page++) {
            x.sign(page / 2, page % 2, page);
            x.dedicate(page / 2, page % 2, 3);
            least += 1000;
        }
        x.coins(3, 9999);
        int[] most = {9999, 8, 16, least + 400, least + 400 + 9999, 65535, 15, 8, 16};
        for (int what = 0; what <= 8; what++) {
            due("the most, collectorOf(3, " + what + ")", most[what], x.collectorOf(3, what));
        }
        x.coins(0, 0);
        for (int what = 0; what <= 8; what++) {
            due("the least, collectorOf(0, " + what + ")", 0, x.collectorOf(0, what));
        }
        FairBooks y = named(0);
        leaves(y, 1, 8);
        for (int leaf = 0; leaf < 7; leaf++) {
            y.over(leaf, 0);
        }
        due("entries over two pages are one each", 7, y.collectorOf(1, 2));
        due("one bundle of 8", 1, y.collectorOf(1, 7));
        y.dedicate(7, 0, 1);
        due("one over two pages that is dedicated is one", 1, y.collectorOf(1, 8));
    }

    private void collectorOfInvalid() {
        of("Promise 14", "INVALID_ARGUMENT if an argument is out of range.");
        FairBooks x = some();
        due("no such collector", INVALID, x.collectorOf(4, 0));
        due("no such what", INVALID, x.collectorOf(0, 9));
        due("what below 0", INVALID, x.collectorOf(0, -1));
        due("neither", INVALID, x.collectorOf(-1, -1));
    }

    private void nameOfReturns() {
        of("Promise 15", "Returns something of a name.");
        FairBooks x = some();
        long before = picture(x);
        due("nameOf(1, 2)", 2, x.nameOf(1, 2));
        due("nameOf(3, 0)", INVALID, x.nameOf(3, 0));
        asBefore(x, before);
    }

    private void nameOfName() {
        of("Promise 15", "`name`: number of the name");
        FairBooks x = new FairBooks();
        for (int name = 0; name < 16; name++) {
            for (int none : outside(0, name - 1)) {
                if (none < 0 || none >= name) {
                    due("nameOf(" + none + ", 0) of " + name, INVALID, x.nameOf(none, 0));
                }
            }
            x.name(50 - name, 0);
        }
        for (int name = 0; name < 16; name++) {
            due("nameOf(" + name + ", 0)", 50 - name, x.nameOf(name, 0));
        }
        for (int none : outside(0, 15)) {
            due("nameOf(" + none + ", 0)", INVALID, x.nameOf(none, 0));
        }
        x.undo();
        due("nameOf(15, 0) of a name that is undone", INVALID, x.nameOf(15, 0));
    }

    private void nameOfWhat() {
        of("Promise 15", "`what`: 0: its fame; 1: its theme; 2: its entries in all books; 3: the collectors in whose books it is, as bits");
        FairBooks x = some();
        int[][] due = {{10, 0, 0, 0}, {10, 0, 2, 1}, {10, 3, 1, 4}};
        for (int name = 0; name <= 2; name++) {
            for (int what = 0; what <= 3; what++) {
                due("nameOf(" + name + ", " + what + ")", due[name][what], x.nameOf(name, what));
            }
        }
        for (int what : outside(0, 3)) {
            due("nameOf(0, " + what + ")", INVALID, x.nameOf(0, what));
        }
    }

    private void nameOfNumber() {
        of("Promise 15", "Returns the number");
        FairBooks x = new FairBooks();
        x.name(1, 0);
        x.name(50, 3);
        due("the least fame", 1, x.nameOf(0, 0));
        due("the greatest fame", 50, x.nameOf(1, 0));
        due("the least theme", 0, x.nameOf(0, 1));
        due("the greatest theme", 3, x.nameOf(1, 1));
        int entries = 0;
        for (int c = 0; c < 4; c++) {
            leaves(x, c, 8);
            due("in no more books yet", (1 << c) - 1, x.nameOf(1, 3));
            for (int leaf = 8 * c; leaf < 8 * c + 7; leaf++) {
                x.over(leaf, 1);
                entries++;
                due("entries, one over two pages is one", entries, x.nameOf(1, 2));
            }
            x.sign(8 * c, 0, 1);
            entries++;
            x.sign(8 * c + 7, 1, 1);
            entries++;
            due("entries", entries, x.nameOf(1, 2));
            due("books", (1 << c + 1) - 1, x.nameOf(1, 3));
        }
        due("the most entries", 36, x.nameOf(1, 2));
        due("no entry", 0, x.nameOf(0, 2));
        due("no book", 0, x.nameOf(0, 3));
        x.tear(0);
        due("a book less", 14, x.nameOf(1, 3));
    }

    private void nameOfInvalid() {
        of("Promise 15", "INVALID_ARGUMENT if an argument is out of range.");
        FairBooks x = some();
        due("no name at all", INVALID, new FairBooks().nameOf(0, 0));
        due("no such name", INVALID, x.nameOf(3, 0));
        due("no such what", INVALID, x.nameOf(0, 4));
        due("neither", INVALID, x.nameOf(-1, -1));
    }
}
