/** Promises 16 to 22: gain, fair, best, missing, mean, count, undo. */
public final class WhatWouldBeTest {
    private static final Check C = new Check("WhatWouldBeTest");

    public static void main(String[] args) {
        gain();
        gainBeyondLimits();
        gainOfThemes();
        fair();
        fairLimits();
        fairTogether();
        best();
        bestOfEquals();
        bestPossible();
        missing();
        mean();
        count();
        countAllBooks();
        richest();
        undo();
        undoAll();
        undoEach();
        C.end();
    }

    /** Leaf 0 of collector 0 has name 0 of fame 10, dedicated to 1; leaf 1 of 1 name 1 of fame 20, dedicated to 0. */
    private static FairBooks crossed() {
        FairBooks x = new FairBooks();
        x.name(10, 0);
        x.name(20, 0);
        x.leaf(0);
        x.leaf(1);
        x.sign(0, 0, 0);
        x.dedicate(0, 0, 1);
        x.sign(1, 1, 1);
        x.dedicate(1, 1, 0);
        return x;
    }

    private static void gain() {
        FairBooks x = crossed();
        int states = x.count(8);
        C.due("no one", Check.INVALID, x.gain(2, 1, 0, 0));
        C.due("no other", Check.INVALID, x.gain(0, 2, 0, 0));
        C.due("coins -10000", Check.INVALID, x.gain(0, 1, -10000, 0));
        C.due("coins 10000", Check.INVALID, x.gain(0, 1, 10000, 0));
        C.due("whose -1", Check.INVALID, x.gain(0, 1, 0, -1));
        C.due("whose 2", Check.INVALID, x.gain(0, 1, 0, 2));
        C.due("same book, whose 2", Check.INVALID, x.gain(0, 0, 0, 2));
        C.due("same book", Check.NOT_POSSIBLE, x.gain(0, 0, 0, 0));
        C.due("of one", 100350, x.gain(0, 1, 0, 0));
        C.due("of the other one", 100100, x.gain(0, 1, 0, 1));
        C.due("of one, turned", 100100, x.gain(1, 0, 0, 0));
        C.due("of the other one, turned", 100350, x.gain(1, 0, 0, 1));
        C.due("one pays 40", 100310, x.gain(0, 1, 40, 0));
        C.due("the other one gets 40", 100140, x.gain(0, 1, 40, 1));
        C.due("one gets 40", 100390, x.gain(0, 1, -40, 0));
        C.due("the other one pays 40", 100060, x.gain(0, 1, -40, 1));
        C.due("more than there is", 100350 - 9999, x.gain(0, 1, 9999, 0));
        C.due("more than there is, the other one", 100100 - 9999, x.gain(0, 1, -9999, 1));
        C.due("no change", states, x.count(8));
        C.due("still there", 0, x.leafOf(0, 0));
        x.trade(0, 1, 0);
        C.due("below 0", 100000 - 350, x.gain(0, 1, 0, 1));
    }

    private static void gainBeyondLimits() {
        FairBooks x = new FairBooks();
        x.name(10, 0);
        for (int i = 0; i < 8; i++) {
            x.leaf(0);
            x.leaf(1);
        }
        for (int i = 0; i < 7; i++) {
            x.over(2 * i + 1, 0);
        }
        x.sign(0, 0, 0);
        x.sign(14, 1, 0);
        C.due("not for real", Check.LIMIT, x.trade(0, 1, 0));
        C.due("15 leaves", 100000 + 150 + 6 * 75 + 50 - 100 - 50, x.gain(0, 15, 0, 0));
        C.due("15 leaves, the last bundle's", 100000 + 7 * 75 - 50, x.gain(14, 7, 0, 0));
        C.due("one leaf", 100000 + 100 - 150 - 6 * 75, x.gain(0, 1, 0, 1));
        C.due("no coins are there", 100525 - 9999, x.gain(14, 7, 9999, 0) + 50);
    }

    private static void gainOfThemes() {
        FairBooks x = new FairBooks();
        x.name(1, 0);
        x.name(1, 0);
        x.name(1, 1);
        x.leaf(0);
        x.leaf(0);
        x.leaf(2);
        x.sign(0, 0, 0);
        x.sign(1, 0, 2);
        x.sign(2, 0, 1);
        C.due("a theme becomes whole, another one not", 100050 - 25, x.gain(1, 2, 0, 0));
        C.due("a theme becomes whole for the other one", 100025, x.gain(1, 2, 0, 1));
        C.due("no theme of two", 100000, x.gain(0, 2, 0, 0));
    }

    private static void fair() {
        FairBooks x = crossed();
        C.due("no one", Check.INVALID, x.fair(2, 1));
        C.due("no other", Check.INVALID, x.fair(0, 2));
        C.due("leaf -1", Check.INVALID, x.fair(-1, 0));
        C.due("same book", Check.NOT_POSSIBLE, x.fair(0, 0));
        C.due("the other one pays nearly 100", 10000 - 99, x.fair(0, 1));
        C.due("turned", 10000 - 349, x.fair(1, 0));
        FairBooks y = new FairBooks();
        y.name(10, 0);
        y.leaf(0);
        y.leaf(1);
        C.due("nobody has a gain", Check.NOT_FOUND, y.fair(0, 1));
        y.sign(0, 0, 0);
        C.due("as much as another one has", Check.NOT_FOUND, y.fair(0, 1));
        y.undo();
        y.name(10, 1);
        y.sign(0, 0, 0);
        y.dedicate(0, 0, 3);
        y.leaf(0);
        y.sign(2, 0, 0);
        y.leaf(1);
        y.sign(3, 0, 1);
        y.sign(3, 1, 1);
        C.due("250 for 125", 100125, y.gain(2, 3, 0, 0));
        C.due("125 for 175", 100000 - 50, y.gain(2, 3, 0, 1));
        C.due("gains of 125 and -50", 10051, y.fair(2, 3));
        C.due("turned, -50 and 125", 10000 - 124, y.fair(3, 2));
    }

    private static void fairLimits() {
        FairBooks x = new FairBooks();
        for (int i = 0; i < 16; i++) {
            x.name(50, 0);
        }
        for (int i = 0; i < 8; i++) {
            x.leaf(0);
        }
        for (int i = 0; i < 7; i++) {
            x.over(i, i);
        }
        x.leaf(1);
        for (int i = 0; i < 7; i++) {
            x.dedicate(i, 1, 1);
        }
        C.due("gain of 1", 100000 + 7 * 1500, x.gain(8, 0, 0, 0));
        C.due("loss of 0", 100000 - 7 * 375, x.gain(8, 0, 0, 1));
        C.due("1 pays", 10000 + 2626, x.fair(8, 0));
        C.due("0 is paid: not more than 9999", 10000 - 9999, x.fair(0, 8));
    }

    /** Both together gain 1, so that no coins are enough for both, or 2, so that there are just one's. */
    private static void fairTogether() {
        for (int wide = 0; wide <= 1; wide++) {
            FairBooks x = new FairBooks();
            x.name(1, 0);
            x.name(1, 0);
            x.name(1, 0);
            x.leaf(0);
            x.leaf(0);
            x.leaf(1);
            x.leaf(1);
            x.sign(0, 0, 0);
            x.sign(0, 1, 1);
            x.sign(1, 0, 0);
            if (wide == 1) {
                x.over(2, 1);
            } else {
                x.sign(2, 1, 1);
            }
            x.dedicate(2, 1, 3);
            C.due("gain of one, " + wide, 100000 - 3 + wide, x.gain(1, 2, 0, 0));
            C.due("gain of the other one, " + wide, 100000 + 5 - 2 * wide, x.gain(1, 2, 0, 1));
            C.due("fair, " + wide, wide == 1 ? Check.NOT_FOUND : 10000 - 4, x.fair(1, 2));
            C.due("fair, turned, " + wide, wide == 1 ? Check.NOT_FOUND : 10000 + 4, x.fair(2, 1));
        }
    }

    private static void best() {
        FairBooks x = crossed();
        C.due("collector -1", Check.INVALID, x.best(-1, 0));
        C.due("collector 4", Check.INVALID, x.best(4, 0));
        C.due("what -1", Check.INVALID, x.best(0, -1));
        C.due("what 3", Check.INVALID, x.best(0, 3));
        C.due("no leaves", Check.NOT_FOUND, x.best(2, 0));
        C.due("own leaf", 0, x.best(0, 0));
        C.due("other leaf", 1, x.best(0, 1));
        C.due("gain", 350, x.best(0, 2));
        C.due("own leaf of 1", 1, x.best(1, 0));
        C.due("other leaf of 1", 0, x.best(1, 1));
        C.due("gain of 1", 100, x.best(1, 2));
        x.coins(0, 0);
        C.due("coins do not matter", 350, x.best(0, 2));
        x.trade(0, 1, 0);
        C.due("nothing better", Check.NOT_FOUND, x.best(0, 2));
        C.due("nothing better for 1", Check.NOT_FOUND, x.best(1, 0));
        x.undo();
        x.leaf(0);
        x.over(0, 0);
        x.leaf(0);
        x.move(3, 0);
        C.due("first leaf of the bundle behind another", 0, x.best(0, 0));
        C.due("first leaf of the bundle there", 0, x.best(1, 1));
    }

    private static void bestOfEquals() {
        FairBooks x = new FairBooks();
        x.name(10, 0);
        x.name(10, 1);
        x.name(1, 2);
        x.name(1, 2);
        for (int i = 0; i < 2; i++) {
            for (int c = 0; c < 4; c++) {
                x.leaf(c);
            }
        }
        int[] own = {1, 5};
        for (int leaf : own) {
            x.sign(leaf, 0, 0);
        }
        int[] others = {0, 4, 2, 6, 3, 7};
        for (int leaf : others) {
            x.sign(leaf, 0, 1);
        }
        C.due("own first bundle of two equal ones", 1, x.best(1, 0));
        C.due("lowest other collector's first", 0, x.best(1, 1));
        C.due("own first bundle of 0", 0, x.best(0, 0));
        C.due("the only one with the other name", 1, x.best(0, 1));
        x.move(4, 0);
        C.due("first by places there", 4, x.best(1, 1));
        x.move(5, 0);
        C.due("first by places of one's own", 5, x.best(1, 0));
        x.dedicate(7, 0, 1);
        C.due("a greater one there", 7, x.best(1, 1));
    }

    private static void bestPossible() {
        FairBooks x = new FairBooks();
        x.name(10, 0);
        x.name(10, 0);
        x.name(50, 1);
        x.leaf(0);
        for (int i = 0; i < 8; i++) {
            x.leaf(1);
        }
        x.sign(0, 0, 0);
        x.dedicate(0, 0, 1);
        x.over(1, 1);
        x.dedicate(1, 1, 0);
        C.due("possible", 1, x.best(0, 1));
        C.due("gain", 300 - 50, x.best(0, 2));
        x.name(1, 2);
        x.leaf(0);
        x.over(0, 3);
        x.dedicate(0, 1, 1);
        C.due("2 for 2", 1, x.best(1, 0));
        x.leaf(0);
        x.over(9, 0);
        C.due("3 for 2 is too much for 1", Check.NOT_FOUND, x.best(1, 0));
        C.due("and so for 0", Check.NOT_FOUND, x.best(0, 0));
        C.due("0 would like it", 100300 - 157, x.gain(0, 1, 0, 0));
        C.due("1 would like it", 100000 + 200 + 30 + 75 + 25 - 75, x.gain(0, 1, 0, 1));
        x.tear(3);
        C.due("3 for 2 in a book of 7", 1, x.best(1, 0));
    }

    private static void missing() {
        FairBooks x = new FairBooks();
        C.due("collector -1", Check.INVALID, x.missing(-1, 0));
        C.due("collector 4", Check.INVALID, x.missing(4, 0));
        C.due("theme -1", Check.INVALID, x.missing(0, -1));
        C.due("theme 4", Check.INVALID, x.missing(0, 4));
        for (int i = 0; i < 16; i++) {
            x.name(1, i % 4);
        }
        C.due("all of theme 0", 0x1111, x.missing(0, 0));
        C.due("all of theme 3", 0x8888, x.missing(3, 3));
        x.leaf(3);
        x.leaf(3);
        x.sign(0, 0, 15);
        x.over(0, 3);
        C.due("two less", 0x0880, x.missing(3, 3));
        C.due("another theme", 0x4444, x.missing(3, 2));
        C.due("another book", 0x8888, x.missing(2, 3));
        x.sign(1, 1, 7);
        x.leaf(3);
        x.sign(2, 0, 11);
        C.due("none", 0, x.missing(3, 3));
    }

    private static void mean() {
        FairBooks x = new FairBooks();
        C.due("collector -1", Check.INVALID, x.mean(-1));
        C.due("collector 4", Check.INVALID, x.mean(4));
        C.due("no leaf", Check.NOT_FOUND, x.mean(1));
        x.leaf(1);
        C.due("no entry", Check.NOT_FOUND, x.mean(1));
        for (int i = 0; i < 16; i++) {
            x.name(3 * i + 1, 0);
        }
        for (int i = 1; i < 8; i++) {
            x.leaf(1);
        }
        float sum = 0;
        for (int i = 0; i < 16; i++) {
            sum += 10 * (3 * i + 1);
            x.sign(i / 2, i % 2, i);
            C.due("mean of " + (i + 1), Float.floatToIntBits(sum / (i + 1)), x.mean(1));
        }
        C.due("without what themes are worth more", (long) sum + 16 * 25, x.collectorOf(1, 3));
        doublesInMean();
    }

    private static void doublesInMean() {
        FairBooks x = new FairBooks();
        x.name(1, 0);
        x.name(50, 0);
        x.leaf(2);
        x.leaf(2);
        x.leaf(2);
        x.over(0, 1);
        x.dedicate(0, 1, 2);
        C.due("greatest", Float.floatToIntBits(1500f), x.mean(2));
        x.sign(1, 1, 1);
        C.due("a double", Float.floatToIntBits(1750f / 2f), x.mean(2));
        x.sign(0, 0, 1);
        C.due("its values in the book's order", Float.floatToIntBits((500f + 750f + 250f) / 3f), x.mean(2));
        x.tear(0);
        x.sign(2, 0, 0);
        x.dedicate(2, 0, 1);
        C.due("5", Float.floatToIntBits(5f), x.mean(2));
        x.sign(2, 1, 0);
        C.due("5 and 5", Float.floatToIntBits(5f), x.mean(2));
        x.dedicate(2, 1, 3);
        C.due("5 and 2", Float.floatToIntBits(3.5f), x.mean(2));
    }

    private static void count() {
        FairBooks x = crossed();
        C.due("what -1", Check.INVALID, x.count(-1));
        C.due("what 10", Check.INVALID, x.count(10));
        C.due("least", Check.INVALID, x.count(Integer.MIN_VALUE));
        x.leaf(3);
        x.leaf(3);
        x.over(2, 1);
        x.tear(0);
        x.trade(1, 2, 7);
        x.type(' ');
        x.type('~');
        int[] due = {2, 3, 2, 1, 4, 1, 300 + 100, 1, 4, 2};
        for (int what = 0; what <= 9; what++) {
            C.due("count " + what, due[what], x.count(what));
        }
        x.dedicate(2, 1, 2);
        C.due("dedicated, over two pages is one", 2, x.count(7));
        C.due("all worths", 150 + 100, x.count(6));
    }

    private static void countAllBooks() {
        FairBooks x = new FairBooks();
        x.name(1, 0);
        x.name(1, 0);
        for (int c = 0; c < 4; c++) {
            for (int i = 0; i <= c; i++) {
                int leaf = x.leaf(c);
                x.sign(leaf, 0, 0);
                if (i == 0) {
                    x.dedicate(leaf, 0, c);
                }
            }
        }
        C.due("leaves of all", 10, x.count(1));
        C.due("entries of all", 10, x.count(2));
        C.due("worths of all", 20 + 25 + 30 + 35, x.count(6));
        C.due("dedicated of all", 4, x.count(7));
        C.due("entries of the name", 10, x.nameOf(0, 2));
        C.due("its owners", 15, x.nameOf(0, 3));
    }

    private static void richest() {
        FairBooks x = new FairBooks();
        C.due("all alike", 0, x.count(5));
        x.coins(3, 101);
        C.due("3", 3, x.count(5));
        x.coins(1, 101);
        C.due("1 and 3", 1, x.count(5));
        x.name(1, 0);
        x.leaf(2);
        x.sign(0, 0, 0);
        C.due("2 with book and coins", 2, x.count(5));
        x.coins(2, 66);
        C.due("2 has as much as 1 and 3", 1, x.count(5));
        x.coins(0, 101);
        C.due("all alike again", 0, x.count(5));
    }

    private static void undo() {
        FairBooks x = new FairBooks();
        C.due("empty", Check.NOT_POSSIBLE, x.undo());
        x.coins(0, 1);
        C.due("one", 0, x.undo());
        C.due("coins", 100, x.collectorOf(0, 0));
        C.due("empty again", Check.NOT_POSSIBLE, x.undo());
        for (int i = 1; i <= 9; i++) {
            x.coins(0, i);
            C.due("states", Math.min(i, 4), x.count(8));
        }
        x.coins(0, -1);
        C.due("an error is no change", 4, x.count(8));
        for (int i = 3; i >= 0; i--) {
            C.due("left", i, x.undo());
            C.due("coins then", 5 + i, x.collectorOf(0, 0));
        }
        C.due("oldest ones dropped", Check.NOT_POSSIBLE, x.undo());
        x.coins(0, 50);
        x.coins(0, 51);
        C.due("undo", 1, x.undo());
        x.coins(0, 52);
        C.due("a change behind undo", 2, x.count(8));
        C.due("left", 1, x.undo());
        C.due("50", 50, x.collectorOf(0, 0));
        C.due("left", 0, x.undo());
        C.due("5", 5, x.collectorOf(0, 0));
    }

    private static void undoAll() {
        FairBooks x = crossed();
        Check.write(x, "l2;");
        x.trade(0, 1, 5);
        x.undo();
        C.due("trades", 0, x.count(3));
        C.due("coins", 100, x.collectorOf(0, 0));
        C.due("owner", 0, x.leafOf(0, 0));
        x.name(3, 3);
        x.undo();
        C.due("names", 2, x.count(0));
        C.due("theme", 0, x.missing(0, 3));
        x.leaf(2);
        x.undo();
        C.due("leaves so far", 2, x.count(4));
        C.due("same number", 2, x.leaf(2));
        x.undo();
        x.tear(0);
        x.undo();
        C.due("torn", 1, x.pageOf(0, 0, 1));
        x.leaf(0);
        x.over(0, 0);
        x.undo();
        C.due("over", 1, x.leafOf(0, 2));
        x.move(2, 0);
        x.undo();
        C.due("moved", 0, x.at(0, 0));
        x.sign(2, 1, 1);
        x.undo();
        C.due("signed", Check.NOT_FOUND, x.pageOf(2, 1, 0));
        C.due("text stays", 3, x.count(9));
        x.play();
        x.clearText();
        x.undo();
        C.due("played", 0, x.collectorOf(2, 1));
        C.due("text is not restored", 0, x.count(9));
        x.sign(2, 1, 1);
        x.dedicate(2, 1, 0);
        x.undo();
        C.due("dedicated", Check.NOT_FOUND, x.pageOf(2, 1, 1));
    }

    /** Each kind of change behind another change, so that undo must bring back just what was between them. */
    private static void undoEach() {
        for (int kind = 0; kind < 10; kind++) {
            FairBooks x = crossed();
            x.leaf(0);
            x.sign(2, 1, 0);
            Check.write(x, "l3;");
            x.coins(3, 200 + kind);
            int all = sum(x);
            int returned = change(x, kind);
            C.due("change " + kind, 1, returned >= 0 ? 1 : 0);
            C.due("states behind change " + kind, 4, x.count(8));
            C.due("undo of change " + kind, 3, x.undo());
            C.due("coins then " + kind, 200 + kind, x.collectorOf(3, 0));
            C.due("all then " + kind, all, sum(x));
        }
    }

    private static int change(FairBooks x, int kind) {
        switch (kind) {
            case 0:
                return x.name(5, 2);
            case 1:
                return x.leaf(1);
            case 2:
                return x.sign(2, 0, 1);
            case 3:
                return x.over(0, 1);
            case 4:
                return x.dedicate(2, 1, 3);
            case 5:
                return x.move(2, 0);
            case 6:
                return x.trade(0, 1, 3);
            case 7:
                return x.tear(0);
            case 8:
                return x.coins(0, 7);
            default:
                return x.play();
        }
    }

    /** A number that would hardly stay the same if something in the books were another. */
    private static int sum(FairBooks x) {
        int sum = 0;
        for (int what = 0; what < 8; what++) {
            sum = 31 * sum + x.count(what);
        }
        for (int c = 0; c < 4; c++) {
            for (int what = 0; what <= 8; what++) {
                sum = 31 * sum + x.collectorOf(c, what);
            }
            for (int place = x.collectorOf(c, 1) - 1; place >= 0; place--) {
                int leaf = x.at(c, place);
                for (int page = 0; page < 8; page++) {
                    sum = 31 * sum + leaf + x.pageOf(leaf, page / 4, page % 4);
                }
            }
        }
        return sum;
    }
}
