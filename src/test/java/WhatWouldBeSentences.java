/** Sentences of the promises 16 to 19: gain, fair, best, missing. */
final class WhatWouldBeSentences extends Sentences {
    WhatWouldBeSentences(Check check, Document document) {
        super(check, document);
    }

    @Override
    void all() {
        gainTells();
        gainOne();
        gainOther();
        gainCoins();
        gainWhose();
        gainReturns();
        gainInvalid();
        gainNotPossible();
        fairTells();
        fairOne();
        fairOther();
        fairReturns();
        fairInvalid();
        fairNotPossible();
        fairNotFound();
        bestWithoutCoins();
        bestLiked();
        bestPossible();
        bestGreatest();
        bestFirstOwn();
        bestLowestOther();
        bestFirstThere();
        bestCollector();
        bestWhat();
        bestReturns();
        bestInvalid();
        bestNotFound();
        missingReturns();
        missingCollector();
        missingTheme();
        missingSet();
        missingInvalid();
    }

    /** Leaf 0 of 0 has the name 0, dedicated to 1; leaf 1 of 1 has the name 1 of twice the fame, dedicated to 0. */
    private static FairBooks crossed() {
        FairBooks x = new FairBooks();
        x.name(10, 0);
        x.name(20, 0);
        x.leaf(0);
        x.leaf(1);
        x.sign(0, 0, 0);
        x.dedicate(0, 0, 1);
        x.sign(1, 1, 1);
        x.dedicate(1, 1, 0);
        return x;
    }

    /** The leaves 0 to 7 of 0 are empty, the leaves 8 to 15 of 1 one bundle of a worth of 625. */
    private static FairBooks tooMany() {
        FairBooks x = named(0);
        leaves(x, 0, 8);
        leaves(x, 1, 8);
        for (int leaf = 8; leaf < 15; leaf++) {
            x.over(leaf, 0);
        }
        return x;
    }

    private void gainTells() {
        of("Promise 16", "Tells by how much the wealth of a collector would be greater by a trade of the bundles of two leaves "
            + "(whatever coins there are, and how many leaves books have).");
        FairBooks x = tooMany();
        x.coins(0, 0);
        x.coins(1, 9999);
        long before = picture(x);
        due("of a book of 15 leaves", 100625, x.gain(7, 8, 0, 0));
        due("of a book of 1 leaf", 100000 - 625, x.gain(7, 8, 0, 1));
        due("by the last ones", 100625, x.gain(0, 15, 0, 0));
        due("1 coin of none", 100624, x.gain(7, 8, 1, 0));
        due("9999 coins of none", 100625 - 9999, x.gain(7, 8, 9999, 0));
        due("19998 coins", 100000 - 625 + 9999, x.gain(7, 8, 9999, 1));
        due("the other way", 100625 + 9999, x.gain(7, 8, -9999, 0));
        due("such a trade is not possible", LIMIT, x.trade(7, 8, 0));
        due("nothing is changed", before, picture(x));
        due("count(8)", 4, x.count(8));
        FairBooks y = crossed();
        long gained = y.gain(0, 1, 7, 0) - 100000;
        long wealth = y.collectorOf(0, 4);
        y.trade(0, 1, 7);
        due("as the trade shows", wealth + gained, y.collectorOf(0, 4));
    }

    private void gainOne() {
        of("Promise 16", "`one`: number of a leaf");
        FairBooks x = crossed();
        for (int leaf : outside(0, 1)) {
            due("gain(" + leaf + ", 1, 0, 0)", INVALID, x.gain(leaf, 1, 0, 0));
        }
        due("gain(0, 1, 0, 0)", 100350, x.gain(0, 1, 0, 0));
        due("gain(1, 0, 0, 0)", 100100, x.gain(1, 0, 0, 0));
        x.tear(0);
        due("a leaf that is gone", INVALID, x.gain(0, 1, 0, 0));
    }

    private void gainOther() {
        of("Promise 16", "`other`: number of a leaf");
        FairBooks x = crossed();
        for (int leaf : outside(0, 1)) {
            due("gain(1, " + leaf + ", 0, 0)", INVALID, x.gain(1, leaf, 0, 0));
        }
        due("gain(1, 0, 0, 1)", 100350, x.gain(1, 0, 0, 1));
        due("gain(0, 1, 0, 1)", 100100, x.gain(0, 1, 0, 1));
        x.tear(0);
        due("a leaf that is gone", INVALID, x.gain(1, 0, 0, 0));
    }

    private void gainCoins() {
        of("Promise 16", "`coins`: -9999 to 9999, as for trade()");
        FairBooks x = crossed();
        for (int coins : outside(-9999, 9999)) {
            due("gain(0, 1, " + coins + ", 0)", INVALID, x.gain(0, 1, coins, 0));
        }
        due("one pays 9999", 100350 - 9999, x.gain(0, 1, 9999, 0));
        due("the other one is paid 9999", 100100 + 9999, x.gain(0, 1, 9999, 1));
        due("one is paid 9999", 100350 + 9999, x.gain(0, 1, -9999, 0));
        due("the other one pays 9999", 100100 - 9999, x.gain(0, 1, -9999, 1));
    }

    private void gainWhose() {
        of("Promise 16", "`whose`: 0: the owner of the first one; 1: that of the other one");
        FairBooks x = crossed();
        due("gain(0, 1, 0, 0)", 100350, x.gain(0, 1, 0, 0));
        due("gain(0, 1, 0, 1)", 100100, x.gain(0, 1, 0, 1));
        for (int whose : outside(0, 1)) {
            due("gain(0, 1, 0, " + whose + ")", INVALID, x.gain(0, 1, 0, whose));
        }
    }

    private void gainReturns() {
        of("Promise 16", "Returns by how much, plus 100000 (as it may be below 0)");
        FairBooks x = crossed();
        x.leaf(2);
        x.leaf(3);
        due("nothing", 100000, x.gain(2, 3, 0, 0));
        due("1", 100001, x.gain(2, 3, -1, 0));
        due("-1", 99999, x.gain(2, 3, 1, 0));
        due("50 less", 100000 - 50, x.gain(0, 2, 0, 0));
        due("50 more", 100050, x.gain(0, 2, 0, 1));
        FairBooks y = new FairBooks();
        for (int name = 0; name < 16; name++) {
            y.name(50, 0);
        }
        leaves(y, 0, 8);
        y.leaf(1);
        for (int leaf = 0; leaf < 7; leaf++) {
            y.over(leaf, leaf);
            y.dedicate(leaf, 1, 0);
        }
        y.sign(0, 0, 7);
        y.dedicate(0, 0, 0);
        y.sign(7, 1, 8);
        y.dedicate(7, 1, 0);
        due("12500 and 9999 coins less", 100000 - 12500 - 9999, y.gain(0, 8, 9999, 0));
        due("12500 less and 9999 coins more", 100000 - 12500 + 9999, y.gain(0, 8, -9999, 0));
        due("3125 more and 9999 coins more", 100000 + 3125 + 9999, y.gain(0, 8, 9999, 1));
    }

    private void gainInvalid() {
        of("Promise 16", "INVALID_ARGUMENT if an argument is out of range");
        FairBooks x = crossed();
        due("no leaf at all", INVALID, new FairBooks().gain(0, 0, 0, 0));
        due("no such first one", INVALID, x.gain(2, 1, 0, 0));
        due("no such other one", INVALID, x.gain(0, 2, 0, 0));
        due("coins", INVALID, x.gain(0, 1, 10000, 0));
        due("whose", INVALID, x.gain(0, 1, 0, 2));
        due("none of them", INVALID, x.gain(-1, -1, -10000, -1));
    }

    private void gainNotPossible() {
        of("Promise 16", "NOT_POSSIBLE if both are in the same book.");
        FairBooks x = tooMany();
        due("two bundles", NOT_POSSIBLE, x.gain(0, 7, 0, 0));
        due("one bundle", NOT_POSSIBLE, x.gain(8, 15, 0, 1));
        due("one leaf", NOT_POSSIBLE, x.gain(3, 3, 0, 0));
        due("with coins", NOT_POSSIBLE, x.gain(0, 7, 9999, 0));
        x.tear(8);
        x.leaf(1);
        x.trade(0, 16, 0);
        due("in the same book by a trade", NOT_POSSIBLE, x.gain(16, 7, 0, 0));
        due("no longer in the same book", 100000, x.gain(0, 7, 0, 0));
    }

    private void fairTells() {
        of("Promise 17", "Tells which coins make a trade be liked by both, the least ones (whatever coins there are, and how many leaves books have).");
        FairBooks x = crossed();
        due("350 and 100", 10000 - 99, x.fair(0, 1));
        due("both like it", 1, x.gain(0, 1, -99, 0) > 100000 && x.gain(0, 1, -99, 1) > 100000 ? 1 : 0);
        due("one coin less is not liked", 100000, x.gain(0, 1, -100, 1));
        due("turned", 10000 - 349, x.fair(1, 0));
        x.coins(0, 0);
        x.coins(1, 0);
        long before = picture(x);
        due("no coins are there", 10000 - 99, x.fair(0, 1));
        due("nothing is changed", before, picture(x));
        x.coins(0, 9999);
        due("they would be too many", 10000 - 99, x.fair(0, 1));
        FairBooks y = tooMany();
        y.sign(0, 0, 0);
        y.dedicate(0, 0, 1);
        due("one of 15 leaves gains 550", 100000 + 550, y.gain(0, 8, 0, 0));
        due("the other one loses 400", 100000 - 400, y.gain(0, 8, 0, 1));
        due("fair(0, 8)", 10401, y.fair(0, 8));
        due("fair(8, 0)", 10000 - 549, y.fair(8, 0));
    }

    private void fairOne() {
        of("Promise 17", "`one`: number of a leaf");
        FairBooks x = crossed();
        for (int leaf : outside(0, 1)) {
            due("fair(" + leaf + ", 1)", INVALID, x.fair(leaf, 1));
        }
        x.tear(0);
        due("a leaf that is gone", INVALID, x.fair(0, 1));
    }

    private void fairOther() {
        of("Promise 17", "`other`: number of a leaf");
        FairBooks x = crossed();
        for (int leaf : outside(0, 1)) {
            due("fair(1, " + leaf + ")", INVALID, x.fair(1, leaf));
        }
        x.tear(0);
        due("a leaf that is gone", INVALID, x.fair(1, 0));
    }

    /** The bundle of the leaves 0 to 6 is worth 10000 to collector 1, who gives the leaf 8, which is empty. */
    private static FairBooks dear() {
        FairBooks x = new FairBooks();
        for (int name = 0; name < 15; name++) {
            x.name(50, 0);
        }
        x.name(1, 0);
        leaves(x, 0, 8);
        x.leaf(1);
        for (int leaf = 0; leaf < 6; leaf++) {
            x.over(leaf, leaf);
            x.dedicate(leaf, 1, 1);
        }
        x.sign(0, 0, 6);
        x.dedicate(0, 0, 1);
        return x;
    }

    private void fairReturns() {
        of("Promise 17", "Returns the coins plus 10000");
        FairBooks x = dear();
        due("the other one gains 10000", 110000, x.gain(0, 8, 0, 1));
        due("-9999", 1, x.fair(0, 8));
        due("2501", 12501, x.fair(8, 0));
        x.sign(6, 1, 7);
        x.dedicate(6, 1, 1);
        due("the other one gains 11000", 111000, x.gain(0, 8, 0, 1));
        due("-9999 are the least ones", 1, x.fair(0, 8));
        x.undo();
        x.undo();
        x.sign(8, 0, 15);
        x.dedicate(8, 0, 2);
        due("the other one gains 9995", 109995, x.gain(0, 8, 0, 1));
        due("-9994", 6, x.fair(0, 8));
        FairBooks y = named(0);
        y.leaf(0);
        y.leaf(1);
        y.sign(1, 0, 0);
        y.dedicate(1, 0, 0);
        due("225 for 75", 10076, y.fair(0, 1));
    }

    private void fairInvalid() {
        of("Promise 17", "INVALID_ARGUMENT;");
        FairBooks x = crossed();
        due("no leaf at all", INVALID, new FairBooks().fair(0, 0));
        due("no such first one", INVALID, x.fair(2, 1));
        due("no such other one", INVALID, x.fair(0, 2));
        due("neither", INVALID, x.fair(2, 2));
    }

    private void fairNotPossible() {
        of("Promise 17", "NOT_POSSIBLE if both are in the same book");
        FairBooks x = tooMany();
        due("two bundles", NOT_POSSIBLE, x.fair(0, 7));
        due("one bundle", NOT_POSSIBLE, x.fair(8, 15));
        due("one leaf", NOT_POSSIBLE, x.fair(3, 3));
    }

    /** What one and the other one gain is 2 together, so that just -4 coins are liked; with wide it is 1. */
    private static FairBooks close(boolean wide) {
        FairBooks x = new FairBooks();
        for (int name = 0; name < 3; name++) {
            x.name(1, 0);
        }
        leaves(x, 0, 2);
        leaves(x, 1, 2);
        x.sign(0, 0, 0);
        x.sign(0, 1, 1);
        x.sign(1, 0, 0);
        if (wide) {
            x.over(2, 1);
        } else {
            x.sign(2, 1, 1);
        }
        x.dedicate(2, 1, 3);
        return x;
    }

    private void fairNotFound() {
        of("Promise 17", "NOT_FOUND if there are none from -9999 to 9999.");
        FairBooks x = close(false);
        due("one loses 3", 99997, x.gain(1, 2, 0, 0));
        due("the other one gains 5", 100005, x.gain(1, 2, 0, 1));
        due("just -4", 10000 - 4, x.fair(1, 2));
        due("just 4", 10004, x.fair(2, 1));
        FairBooks y = close(true);
        due("one loses 2", 99998, y.gain(1, 2, 0, 0));
        due("the other one gains 3", 100003, y.gain(1, 2, 0, 1));
        due("none", NOT_FOUND, y.fair(1, 2));
        due("none, turned", NOT_FOUND, y.fair(2, 1));
        FairBooks z = new FairBooks();
        z.leaf(0);
        z.leaf(1);
        due("two empty leaves", NOT_FOUND, z.fair(0, 1));
        z.name(50, 0);
        z.sign(0, 0, 0);
        due("one gains what the other one loses", NOT_FOUND, z.fair(0, 1));
        FairBooks d = dear();
        due("just what is not below -9999", 1, d.fair(0, 8));
        d.trade(0, 8, 0);
        due("both would lose together", NOT_FOUND, d.fair(0, 8));
    }

    private void bestWithoutCoins() {
        of("Promise 18", "Finds the best trade without coins for a collector");
        FairBooks x = crossed();
        long before = picture(x);
        due("best(0, 0)", 0, x.best(0, 0));
        due("nothing is changed", before, picture(x));
        due("count(8)", 4, x.count(8));
        x.coins(0, 0);
        x.coins(1, 0);
        due("of those who have no coins", 350, x.best(0, 2));
        x.coins(0, 9999);
        x.coins(1, 9999);
        due("of those who have the most coins", 350, x.best(0, 2));
        FairBooks y = close(false);
        due("one that both like only with coins is none", NOT_FOUND, y.best(0, 2));
    }

    private void bestLiked() {
        of("Promise 18", "that both like");
        FairBooks x = crossed();
        due("both gain", 350, x.best(0, 2));
        due("both gain, for the other one", 100, x.best(1, 2));
        x.trade(0, 1, 0);
        due("both lose", NOT_FOUND, x.best(0, 2));
        FairBooks y = named(0, 0, 0);
        y.leaf(0);
        y.leaf(1);
        y.sign(0, 0, 0);
        y.sign(1, 0, 1);
        due("both are as wealthy as before", NOT_FOUND, y.best(0, 2));
        y.dedicate(0, 0, 1);
        due("both gain", 100, y.best(1, 2));
        y.dedicate(1, 0, 2);
        due("one gains nothing", NOT_FOUND, y.best(0, 2));
        due("the other one would gain 150", NOT_FOUND, y.best(1, 2));
    }

    private void bestPossible() {
        of("Promise 18", "and that is possible");
        for (int more = 0; more <= 1; more++) {
            FairBooks x = named(0, 0);
            x.leaf(0);
            leaves(x, 1, 7 + more);
            x.leaf(0);
            int second = 8 + more;
            x.sign(0, 0, 0);
            x.dedicate(0, 0, 1);
            x.over(0, 0);
            x.sign(1, 0, 0);
            x.dedicate(1, 0, 0);
            due("the bundle of two", 2, x.leafOf(second, 2));
            due("one likes it, with " + (7 + more) + " leaves there", 1, x.gain(0, 1, 0, 0) > 100000 ? 1 : 0);
            due("the other one likes it, with " + (7 + more) + " leaves there", 1, x.gain(0, 1, 0, 1) > 100000 ? 1 : 0);
            due("trade is possible with 8 leaves then, not with 9", more == 0 ? 0 : NOT_FOUND, x.best(0, 0));
            due("and so for the other one", more == 0 ? 1 : NOT_FOUND, x.best(1, 0));
            due("trade()", more == 0 ? 3 : LIMIT, x.trade(0, 1, 0));
        }
        for (int c = 0; c < 4; c++) {
            bestWithinBook(c);
        }
    }

    /** A book with either leaf twice would be worth more than as it is, but both are of the same one. */
    private void bestWithinBook(int c) {
        FairBooks x = named(0);
        leaves(x, c, 2);
        x.sign(0, 0, 0);
        x.dedicate(0, 0, (c + 1) % 4);
        x.sign(0, 1, 0);
        x.dedicate(0, 1, c);
        x.sign(1, 0, 0);
        due("50, 100, 100 and 25 of " + c, 275, x.dedicate(1, 0, c));
        due("trade in the book of " + c, NOT_POSSIBLE, x.trade(0, 1, 0));
        due("best(" + c + ", 0) with no other book", NOT_FOUND, x.best(c, 0));
        due("best(" + c + ", 2) with no other book", NOT_FOUND, x.best(c, 2));
    }

    private void bestGreatest() {
        of("Promise 18", "the one by which the wealth becomes greatest");
        FairBooks x = named(0, 0, 0);
        leaves(x, 0, 2);
        leaves(x, 1, 2);
        leaves(x, 2, 2);
        x.sign(0, 0, 0);
        x.dedicate(0, 0, 1);
        x.sign(1, 0, 1);
        x.dedicate(1, 0, 2);
        x.sign(2, 0, 1);
        x.dedicate(2, 0, 0);
        x.over(4, 1);
        x.dedicate(4, 1, 0);
        due("by the leaves 0 and 2", 100125, x.gain(0, 2, 0, 0));
        due("the other one likes it", 100150, x.gain(0, 2, 0, 1));
        due("by the leaves 1 and 4", 100250, x.gain(1, 4, 0, 0));
        due("the other one likes it too", 100125, x.gain(1, 4, 0, 1));
        due("the greatest one", 250, x.best(0, 2));
        due("its own leaf", 1, x.best(0, 0));
        due("its other leaf", 4, x.best(0, 1));
        x.move(1, 0);
        due("the greatest one, found first", 250, x.best(0, 2));
    }

    /** Two leaves of each collector, with the name 0 in the book of 1, the name 1 in the others: each trade of 1 gains 75. */
    private static FairBooks alike() {
        FairBooks x = named(0, 1);
        for (int i = 0; i < 2; i++) {
            for (int c = 0; c < 4; c++) {
                x.sign(x.leaf(c), 0, c == 1 ? 0 : 1);
            }
        }
        return x;
    }

    private void bestFirstOwn() {
        of("Promise 18", "of several the one with the first own bundle (by places)");
        FairBooks x = alike();
        due("the first one", 1, x.best(1, 0));
        x.move(5, 0);
        due("the first one by places", 5, x.best(1, 0));
        FairBooks y = named(0, 0, 0, 0);
        leaves(y, 1, 2);
        y.leaf(0);
        y.leaf(3);
        y.sign(0, 0, 0);
        y.dedicate(0, 0, 3);
        y.sign(1, 0, 1);
        y.dedicate(1, 0, 0);
        y.sign(2, 0, 2);
        y.sign(3, 0, 2);
        due("the gain with 3 by the first one", 100050, y.gain(0, 3, 0, 0));
        due("the gain with 0 by the second one", 100050, y.gain(1, 2, 0, 0));
        due("0 does not like the first one", 1, y.gain(0, 2, 0, 1) <= 100000 ? 1 : 0);
        due("the first own one, whatever collector", 0, y.best(1, 0));
        due("with 3", 3, y.best(1, 1));
        y.move(1, 0);
        due("the other one first", 1, y.best(1, 0));
        due("with 0", 2, y.best(1, 1));
    }

    private void bestLowestOther() {
        of("Promise 18", "of these that with the lowest other collector");
        FairBooks x = alike();
        due("collector 0", 0, x.best(1, 1));
        x.tear(0);
        due("collector 0 with a leaf alone gains nothing", 2, x.best(1, 1));
        x.tear(2);
        due("collector 3", 3, x.best(1, 1));
        x.tear(3);
        due("none", NOT_FOUND, x.best(1, 1));
        FairBooks y = alike();
        y.leaf(0);
        y.move(8, 0);
        due("collector 0, behind a leaf that is not liked", 0, y.best(1, 1));
    }

    private void bestFirstThere() {
        of("Promise 18", "of these the first bundle there.");
        FairBooks x = alike();
        due("the first one", 0, x.best(1, 1));
        x.move(4, 0);
        due("the first one by places", 4, x.best(1, 1));
        x.dedicate(0, 0, 1);
        due("a greater one behind it", 0, x.best(1, 1));
    }

    private void bestCollector() {
        of("Promise 18", "`collector`: 0 to 3");
        FairBooks x = alike();
        due("of 0", 0, x.best(0, 0));
        due("of 1", 1, x.best(1, 0));
        due("of 2", 2, x.best(2, 0));
        due("of 3", 3, x.best(3, 0));
        for (int c : outside(0, 3)) {
            due("best(" + c + ", 0)", INVALID, x.best(c, 0));
        }
    }

    private void bestWhat() {
        of("Promise 18", "`what`: 0: the first leaf of the own bundle; 1: that of the other one; 2: by how much the wealth is greater");
        FairBooks x = named(0, 0, 0);
        leaves(x, 0, 3);
        leaves(x, 1, 3);
        x.move(0, 2);
        x.move(3, 2);
        x.over(2, 0);
        x.dedicate(0, 0, 1);
        x.over(5, 1);
        x.dedicate(3, 0, 0);
        due("of a bundle of two", 2, x.best(0, 0));
        due("of a bundle of two there", 5, x.best(0, 1));
        due("300 for 75", 225, x.best(0, 2));
        for (int what : outside(0, 2)) {
            due("best(0, " + what + ")", INVALID, x.best(0, what));
        }
    }

    private void bestReturns() {
        of("Promise 18", "Returns the number");
        FairBooks x = named(0, 0);
        x.name(1, 1);
        x.leaf(3);
        x.leaf(2);
        x.sign(0, 0, 0);
        x.sign(1, 0, 0);
        due("the same on both sides", NOT_FOUND, x.best(3, 0));
        x.sign(0, 1, 2);
        x.dedicate(0, 1, 2);
        due("only the other one gains", NOT_FOUND, x.best(3, 0));
        x.dedicate(1, 0, 3);
        due("the leaf 0", 0, x.best(3, 0));
        due("the leaf 1", 1, x.best(3, 1));
        due("200 for 100 and 5 and 25", 70, x.best(3, 2));
        due("100 and 20 and 25 for 50", 95, x.best(2, 2));
    }

    private void bestInvalid() {
        of("Promise 18", "INVALID_ARGUMENT if an argument is out of range");
        FairBooks x = alike();
        due("no such collector", INVALID, x.best(4, 0));
        due("no such what", INVALID, x.best(0, 3));
        due("neither", INVALID, x.best(-1, -1));
        due("no such what of a collector without leaves", INVALID, new FairBooks().best(0, 3));
    }

    private void bestNotFound() {
        of("Promise 18", "NOT_FOUND if there is none.");
        FairBooks x = new FairBooks();
        for (int what = 0; what <= 2; what++) {
            due("no leaves, best(0, " + what + ")", NOT_FOUND, x.best(0, what));
        }
        leaves(x, 0, 2);
        due("no other leaves", NOT_FOUND, x.best(0, 0));
        due("no own leaves", NOT_FOUND, x.best(1, 0));
        x.leaf(1);
        due("nothing to gain", NOT_FOUND, x.best(0, 0));
        x.name(10, 0);
        x.sign(0, 0, 0);
        x.sign(1, 0, 0);
        x.dedicate(1, 0, 0);
        due("nothing by one's own bundles, though another order is worth more", NOT_FOUND, x.best(0, 0));
        FairBooks y = crossed();
        due("one", 350, y.best(0, 2));
        y.tear(0);
        due("none when the leaf is gone", NOT_FOUND, y.best(0, 2));
        due("none for the other one", NOT_FOUND, y.best(1, 2));
        y.undo();
        due("one again", 350, y.best(0, 2));
        giftIsNone();
    }

    /** Without the leaf 0 the leaf 1 would be worth more, and 1 would like to have it, but has nothing to give. */
    private void giftIsNone() {
        FairBooks x = named(0, 0);
        leaves(x, 0, 2);
        x.sign(0, 0, 0);
        x.dedicate(0, 0, 1);
        x.sign(1, 0, 0);
        x.dedicate(1, 0, 0);
        due("a gift is none", NOT_FOUND, x.best(0, 0));
        due("nor for whom would get it", NOT_FOUND, x.best(1, 0));
        x.leaf(1);
        due("for an empty leaf", 50, x.best(0, 2));
        due("for an empty leaf of one's own", 200, x.best(1, 2));
    }

    private void missingReturns() {
        of("Promise 19", "Returns the names of a theme that are missing in a book.");
        FairBooks x = named(0, 1, 0, 1);
        leaves(x, 0, 2);
        x.leaf(1);
        x.sign(2, 0, 0);
        long before = picture(x);
        due("both of theme 0, whatever other books have", 5, x.missing(0, 0));
        due("both of theme 1", 10, x.missing(0, 1));
        due("nothing is changed", before, picture(x));
        x.sign(1, 1, 2);
        due("one of theme 0", 1, x.missing(0, 0));
        x.over(0, 3);
        due("one of theme 1", 2, x.missing(0, 1));
        x.tear(0);
        due("both again", 5, x.missing(0, 0));
    }

    private void missingCollector() {
        of("Promise 19", "`collector`: 0 to 3");
        for (int c = 0; c <= 3; c++) {
            FairBooks x = named(0);
            x.leaf(c);
            x.sign(0, 0, 0);
            for (int other = 0; other <= 3; other++) {
                due("missing(" + other + ", 0), it is in the book of " + c, other == c ? 0 : 1, x.missing(other, 0));
            }
            for (int none : outside(0, 3)) {
                due("missing(" + none + ", 0)", INVALID, x.missing(none, 0));
            }
        }
    }

    private void missingTheme() {
        of("Promise 19", "`theme`: 0 to 3");
        FairBooks x = named(3, 2, 1, 0);
        for (int theme = 0; theme <= 3; theme++) {
            due("missing(0, " + theme + ")", 1 << 3 - theme, x.missing(0, theme));
        }
        for (int theme : outside(0, 3)) {
            due("missing(0, " + theme + ")", INVALID, x.missing(0, theme));
        }
    }

    private void missingSet() {
        of("Promise 19", "Returns the set");
        FairBooks x = new FairBooks();
        due("no names", 0, x.missing(0, 0));
        for (int name = 0; name < 16; name++) {
            x.name(1, 2);
            due("all of " + (name + 1), (1 << name + 1) - 1, x.missing(0, 2));
        }
        due("none of another theme", 0, x.missing(0, 1));
        leaves(x, 0, 8);
        for (int name = 15; name >= 0; name--) {
            x.sign(name / 2, name % 2, name);
            due("without those from " + name, (1 << name) - 1, x.missing(0, 2));
        }
    }

    private void missingInvalid() {
        of("Promise 19", "INVALID_ARGUMENT if an argument is out of range.");
        FairBooks x = named(0);
        due("no such collector", INVALID, x.missing(4, 0));
        due("no such theme", INVALID, x.missing(0, 4));
        due("neither", INVALID, x.missing(-1, -1));
    }
}
