/** Promises 7 to 10: move, trade, tear, coins. */
public final class BooksTest {
    private static final Check C = new Check("BooksTest");

    public static void main(String[] args) {
        move();
        moveAllPlaces();
        moveChangesDoubles();
        trade();
        tradePlaces();
        tradeCoins();
        tradeLimits();
        tear();
        coins();
        C.end();
    }

    /** A book of collector 0 with the bundles 0, 1 2, 3, 4 5 6. */
    private static FairBooks bundles() {
        FairBooks x = new FairBooks();
        x.name(7, 0);
        x.name(9, 1);
        for (int i = 0; i < 7; i++) {
            x.leaf(0);
        }
        x.over(1, 0);
        x.over(4, 1);
        x.over(5, 0);
        return x;
    }

    private static void order(String what, FairBooks x, int collector, int... leaves) {
        for (int i = 0; i < leaves.length; i++) {
            C.due(what + ", place " + i, leaves[i], x.at(collector, i));
            C.due(what + ", place of " + leaves[i], i, x.leafOf(leaves[i], 1));
        }
        C.due(what + ", leaves", leaves.length, x.collectorOf(collector, 1));
    }

    private static void move() {
        FairBooks x = bundles();
        C.due("no leaf", Check.INVALID, x.move(7, 0));
        C.due("leaf -1", Check.INVALID, x.move(-1, 0));
        C.due("place -1", Check.INVALID, x.move(0, -1));
        C.due("no leaf, great place", Check.INVALID, x.move(7, 100));
        C.due("not so many others", Check.NOT_POSSIBLE, x.move(0, 7));
        C.due("far too great", Check.NOT_POSSIBLE, x.move(0, Integer.MAX_VALUE));
        C.due("not so many others of a pair", Check.NOT_POSSIBLE, x.move(1, 6));
        C.due("parts 1 2", Check.NOT_POSSIBLE, x.move(0, 1));
        C.due("parts 4 5 6", Check.NOT_POSSIBLE, x.move(0, 4));
        C.due("parts 4 5 6 again", Check.NOT_POSSIBLE, x.move(0, 5));
        order("nothing moved", x, 0, 0, 1, 2, 3, 4, 5, 6);
        C.due("behind the pair", 0, x.move(0, 2));
        order("0 behind 1 2", x, 0, 1, 2, 0, 3, 4, 5, 6);
        C.due("three to the front by the middle one", 4, x.move(5, 0));
        order("4 5 6 first", x, 0, 4, 5, 6, 1, 2, 0, 3);
        C.due("pair to the end by its second leaf", 3, x.move(2, 5));
        order("1 2 last", x, 0, 4, 5, 6, 0, 3, 1, 2);
        C.due("three behind one", 0, x.move(4, 1));
        order("4 5 6 behind 0", x, 0, 0, 4, 5, 6, 3, 1, 2);
        C.due("where it is", 1, x.move(6, 1));
        order("as it was", x, 0, 0, 4, 5, 6, 3, 1, 2);
        C.due("it was a change", 4, x.count(8));
        C.due("undo", 3, x.undo());
        C.due("undo", 2, x.undo());
        order("before three behind one", x, 0, 4, 5, 6, 0, 3, 1, 2);
        C.due("bundle stays", 3, x.leafOf(5, 2));
        C.due("entry stays", 1, x.pageOf(4, 1, 0));
        C.due("entry stays, next front", 1, x.pageOf(5, 0, 0));
        C.due("entry stays, pair", 0, x.pageOf(2, 0, 0));
    }

    private static void moveAllPlaces() {
        for (int leaf = 0; leaf < 7; leaf++) {
            for (int place = 0; place <= 7; place++) {
                FairBooks x = bundles();
                int size = x.leafOf(leaf, 2);
                int first = x.leafOf(leaf, 3);
                int[] others = new int[7 - size];
                int n = 0;
                for (int i = 0; i < 7; i++) {
                    if (i < first || i >= first + size) {
                        others[n++] = i;
                    }
                }
                boolean parts = place > 0 && place < n && x.leafOf(others[place - 1], 3) == x.leafOf(others[place], 3);
                boolean can = place <= n && !parts;
                C.due("move " + leaf + " to " + place, can ? first : Check.NOT_POSSIBLE, x.move(leaf, place));
                for (int i = 0; i < 7; i++) {
                    int want = !can ? i : i < place ? others[i] : i < place + size ? first + i - place : others[i - size];
                    C.due("move " + leaf + " to " + place + " at " + i, want, x.at(0, i));
                }
            }
        }
    }

    private static void moveChangesDoubles() {
        FairBooks x = new FairBooks();
        x.name(10, 0);
        x.leaf(0);
        x.leaf(0);
        x.sign(0, 0, 0);
        x.sign(1, 0, 0);
        C.due("to the owner", 225, x.dedicate(1, 0, 0));
        C.due("the dedicated one first", 1, x.move(1, 0));
        C.due("worth then", 275, x.collectorOf(0, 3));
        C.due("value of the first one", 200, x.pageOf(1, 0, 3));
        C.due("value of the double", 50, x.pageOf(0, 0, 3));
    }

    private static void trade() {
        FairBooks x = new FairBooks();
        x.name(10, 0);
        x.leaf(0);
        x.leaf(1);
        x.sign(0, 0, 0);
        x.dedicate(0, 0, 1);
        int states = x.count(8);
        C.due("no one", Check.INVALID, x.trade(2, 1, 0));
        C.due("no other", Check.INVALID, x.trade(0, 2, 0));
        C.due("one -1", Check.INVALID, x.trade(-1, 1, 0));
        C.due("coins -10000", Check.INVALID, x.trade(0, 1, -10000));
        C.due("coins 10000", Check.INVALID, x.trade(0, 1, 10000));
        C.due("same book, coins 10000", Check.INVALID, x.trade(0, 0, 10000));
        C.due("same book", Check.NOT_POSSIBLE, x.trade(0, 0, 0));
        C.due("states", states, x.count(8));
        C.due("trades", 0, x.count(3));
        C.due("trade", 2, x.trade(0, 1, 0));
        C.due("trades", 1, x.count(3));
        C.due("owner of 0", 1, x.leafOf(0, 0));
        C.due("owner of 1", 0, x.leafOf(1, 0));
        C.due("dedication goes with it", 1, x.pageOf(0, 0, 1));
        C.due("value for the new owner", 200, x.pageOf(0, 0, 3));
        C.due("trade back", 2, x.trade(0, 1, 0));
        C.due("value for the old owner", 50, x.pageOf(0, 0, 3));
        C.due("trades", 2, x.count(3));
        x.undo();
        C.due("trades, one undone", 1, x.count(3));
        C.due("owner, one undone", 1, x.leafOf(0, 0));
    }

    private static void tradePlaces() {
        FairBooks x = bundles();
        x.leaf(2);
        x.leaf(2);
        x.leaf(2);
        C.due("bundle of 2", 2, x.over(8, 1));
        C.due("3 for 2, by inner leaves", 5, x.trade(6, 9, 0));
        order("book 0", x, 0, 0, 1, 2, 3, 8, 9);
        order("book 2", x, 2, 7, 4, 5, 6);
        C.due("1 for 3", 4, x.trade(0, 5, 0));
        order("book 0, the three first", x, 0, 4, 5, 6, 1, 2, 3, 8, 9);
        order("book 2, one there", x, 2, 7, 0);
        C.due("7 for 1 2", 3, x.trade(7, 1, 0));
        order("book 2, pair first", x, 2, 1, 2, 0);
        order("book 0, one for the pair", x, 0, 4, 5, 6, 7, 3, 8, 9);
        C.due("bundle 4 5 6", 3, x.leafOf(5, 2));
        C.due("bundle 1 2", 2, x.leafOf(2, 2));
        C.due("bundle 8 9", 5, x.leafOf(9, 3));
        C.due("entry of 1 2", 0, x.pageOf(2, 0, 0));
    }

    private static void tradeCoins() {
        FairBooks x = new FairBooks();
        x.leaf(0);
        x.leaf(3);
        x.coins(0, 70);
        C.due("one has not so many", Check.NOT_POSSIBLE, x.trade(0, 1, 71));
        C.due("the other one has not so many", Check.NOT_POSSIBLE, x.trade(0, 1, -101));
        C.due("all of one", 2, x.trade(0, 1, 70));
        C.due("0 left", 0, x.collectorOf(0, 0));
        C.due("170", 170, x.collectorOf(3, 0));
        C.due("nobody has any", Check.NOT_POSSIBLE, x.trade(1, 0, 1));
        C.due("the other way", 2, x.trade(1, 0, -170));
        C.due("170 back", 170, x.collectorOf(0, 0));
        C.due("0 there", 0, x.collectorOf(3, 0));
        C.due("others as at first", 100, x.collectorOf(1, 0));
        x.undo();
        C.due("coins are restored", 170, x.collectorOf(3, 0));
    }

    private static void tradeLimits() {
        FairBooks x = new FairBooks();
        x.name(1, 0);
        for (int i = 0; i < 8; i++) {
            x.leaf(0);
        }
        x.leaf(1);
        x.leaf(1);
        x.over(8, 0);
        C.due("9 leaves of one", Check.LIMIT, x.trade(0, 8, 0));
        C.due("9 leaves of the other one", Check.LIMIT, x.trade(8, 0, 0));
        C.due("9 leaves, too few coins", Check.NOT_POSSIBLE, x.trade(0, 8, 101));
        C.due("9 leaves, too few coins there", Check.NOT_POSSIBLE, x.trade(0, 8, -101));
        x.over(0, 0);
        C.due("2 for 2 is 8", 4, x.trade(0, 8, 0));
        x.coins(0, 9999);
        C.due("too many coins of 0", Check.LIMIT, x.trade(8, 1, -1));
        C.due("too many coins of 0, other way", Check.LIMIT, x.trade(1, 8, 1));
        x.coins(0, 9998);
        C.due("9999 coins", 4, x.trade(0, 8, 1));
        C.due("they are", 9999, x.collectorOf(0, 0));
        C.due("99", 99, x.collectorOf(1, 0));
        C.due("whole sum", 4, x.coins(2, 0) == 100 ? x.trade(0, 8, 9900) : 0);
        C.due("9999 there", 9999, x.collectorOf(1, 0));
        C.due("one gets what makes it 9999", 4, x.trade(8, 0, -9900));
        C.due("9999 here", 9999, x.collectorOf(0, 0));
    }

    private static void tear() {
        FairBooks x = bundles();
        C.due("no leaf", Check.INVALID, x.tear(7));
        C.due("leaf -1", Check.INVALID, x.tear(-1));
        C.due("pair by its second one", 2, x.tear(2));
        order("without 1 2", x, 0, 0, 3, 4, 5, 6);
        C.due("gone", Check.INVALID, x.tear(1));
        C.due("gone too", Check.INVALID, x.leafOf(2, 0));
        C.due("gone for sign", Check.INVALID, x.sign(1, 0, 0));
        C.due("three by the middle one", 3, x.tear(5));
        order("without 4 5 6", x, 0, 0, 3);
        C.due("no entries", 0, x.collectorOf(0, 2));
        C.due("no worth", 0, x.collectorOf(0, 3));
        C.due("one", 1, x.tear(0));
        order("3 alone", x, 0, 3);
        C.due("last", 1, x.tear(3));
        C.due("empty", Check.NOT_FOUND, x.at(0, 0));
        C.due("leaves so far", 7, x.count(4));
        x.undo();
        x.undo();
        x.undo();
        order("three come back", x, 0, 0, 3, 4, 5, 6);
        C.due("with their entries", 2, x.collectorOf(0, 2));
        C.due("as a bundle", 3, x.leafOf(5, 2));
    }

    private static void coins() {
        FairBooks x = new FairBooks();
        C.due("collector -1", Check.INVALID, x.coins(-1, 0));
        C.due("collector 4", Check.INVALID, x.coins(4, 0));
        C.due("coins -1", Check.INVALID, x.coins(0, -1));
        C.due("coins 10000", Check.INVALID, x.coins(0, 10000));
        C.due("no change", 0, x.count(8));
        for (int c = 0; c < 4; c++) {
            C.due("at first", 100, x.coins(c, 9999 - c));
        }
        for (int c = 0; c < 4; c++) {
            C.due("wealth", 9999 - c, x.collectorOf(c, 4));
            C.due("then", 9999 - c, x.coins(c, 0));
            C.due("0", 0, x.collectorOf(c, 0));
        }
        C.due("the same is a change", 0, x.coins(3, 0));
        x.undo();
        x.undo();
        C.due("undone", 9996, x.collectorOf(3, 0));
        C.due("not undone", 0, x.collectorOf(2, 0));
    }
}
