/** Promises 11 to 15: pageOf, leafOf, at, collectorOf, nameOf. */
public final class WhatThereIsTest {
    private static final Check C = new Check("WhatThereIsTest");

    public static void main(String[] args) {
        pageOf();
        pageValues();
        leafOf();
        at();
        collectorOf();
        wholeThemes();
        nameOf();
        C.end();
    }

    private static FairBooks fair() {
        FairBooks x = new FairBooks();
        x.name(11, 0);
        x.name(13, 0);
        x.name(17, 2);
        x.leaf(1);
        x.leaf(1);
        x.leaf(1);
        x.leaf(3);
        x.sign(0, 0, 0);
        x.over(0, 1);
        x.dedicate(1, 0, 1);
        x.sign(1, 1, 0);
        x.dedicate(1, 1, 0);
        x.sign(2, 0, 1);
        x.sign(3, 1, 1);
        return x;
    }

    private static void pageOf() {
        FairBooks x = fair();
        int states = x.count(8);
        C.due("no leaf", Check.INVALID, x.pageOf(4, 0, 0));
        C.due("leaf -1", Check.INVALID, x.pageOf(-1, 0, 0));
        C.due("side -1", Check.INVALID, x.pageOf(0, -1, 0));
        C.due("side 2", Check.INVALID, x.pageOf(0, 2, 0));
        C.due("what -1", Check.INVALID, x.pageOf(0, 0, -1));
        C.due("what 4", Check.INVALID, x.pageOf(0, 0, 4));
        C.due("what 4, no entry", Check.INVALID, x.pageOf(3, 0, 4));
        for (int what = 0; what < 4; what++) {
            C.due("no entry on the front " + what, Check.NOT_FOUND, x.pageOf(3, 0, what));
            C.due("no entry on the back " + what, Check.NOT_FOUND, x.pageOf(2, 1, what));
        }
        page(x, 0, 0, 0, Check.NOT_FOUND, 0, 110);
        page(x, 0, 1, 1, 1, 1, 390);
        page(x, 1, 0, 1, 1, 1, 390);
        page(x, 1, 1, 0, 0, 0, 27);
        page(x, 2, 0, 1, Check.NOT_FOUND, 0, 65);
        page(x, 3, 1, 1, Check.NOT_FOUND, 0, 130);
        C.due("no change", states, x.count(8));
    }

    private static void page(FairBooks x, int leaf, int side, int name, int friend, int wide, int value) {
        C.due("name on " + leaf + " " + side, name, x.pageOf(leaf, side, 0));
        C.due("friend on " + leaf + " " + side, friend, x.pageOf(leaf, side, 1));
        C.due("wide on " + leaf + " " + side, wide, x.pageOf(leaf, side, 2));
        C.due("value on " + leaf + " " + side, value, x.pageOf(leaf, side, 3));
    }

    private static void pageValues() {
        for (int fame = 1; fame <= 50; fame += 7) {
            FairBooks x = new FairBooks();
            x.name(fame, 0);
            for (int i = 0; i < 7; i++) {
                x.leaf(0);
            }
            for (int i = 0; i < 3; i++) {
                x.over(2 * i, 0);
                x.sign(2 * i + 1, 1, 0);
            }
            x.dedicate(0, 1, 0);
            x.dedicate(1, 1, 0);
            x.dedicate(2, 1, 1);
            x.dedicate(3, 1, 2);
            C.due("wide, own, first", 30 * fame, x.pageOf(1, 0, 3));
            C.due("own, further", 10 * fame, x.pageOf(1, 1, 3));
            C.due("wide, another's, further", 15 * fame / 2 / 2, x.pageOf(2, 1, 3));
            C.due("another's, further", 10 * fame / 2 / 2, x.pageOf(3, 1, 3));
            C.due("wide, further", 15 * fame / 2, x.pageOf(5, 0, 3));
            C.due("further", 5 * fame, x.pageOf(5, 1, 3));
            int sum = 30 * fame + 10 * fame + 15 * fame / 2 / 2 + 10 * fame / 4 + 15 * fame / 2 + 5 * fame;
            C.due("worth", sum + 25, x.collectorOf(0, 3));
        }
    }

    private static void leafOf() {
        FairBooks x = fair();
        C.due("no leaf", Check.INVALID, x.leafOf(4, 0));
        C.due("leaf -1", Check.INVALID, x.leafOf(-1, 0));
        C.due("what -1", Check.INVALID, x.leafOf(0, -1));
        C.due("what 4", Check.INVALID, x.leafOf(0, 4));
        int[][] due = {{1, 0, 2, 0}, {1, 1, 2, 0}, {1, 2, 1, 2}, {3, 0, 1, 0}};
        for (int leaf = 0; leaf < 4; leaf++) {
            for (int what = 0; what < 4; what++) {
                C.due("leafOf " + leaf + " " + what, due[leaf][what], x.leafOf(leaf, what));
            }
        }
        x.over(2, 0);
        C.due("last one", 1, x.leafOf(2, 2));
        x.leaf(1);
        x.move(2, 0);
        int[][] then = {{1, 1, 2, 1}, {1, 2, 2, 1}, {1, 0, 1, 0}, {3, 0, 1, 0}, {1, 3, 1, 3}};
        for (int leaf = 0; leaf < 5; leaf++) {
            for (int what = 0; what < 4; what++) {
                C.due("then leafOf " + leaf + " " + what, then[leaf][what], x.leafOf(leaf, what));
            }
        }
    }

    private static void at() {
        FairBooks x = fair();
        C.due("collector -1", Check.INVALID, x.at(-1, 0));
        C.due("collector 4", Check.INVALID, x.at(4, 0));
        C.due("place -1", Check.INVALID, x.at(0, -1));
        C.due("least place", Check.INVALID, x.at(0, Integer.MIN_VALUE));
        C.due("empty", Check.NOT_FOUND, x.at(0, 0));
        C.due("first", 0, x.at(1, 0));
        C.due("last", 2, x.at(1, 2));
        C.due("behind it", Check.NOT_FOUND, x.at(1, 3));
        C.due("far behind it", Check.NOT_FOUND, x.at(1, Integer.MAX_VALUE));
        C.due("of 3", 3, x.at(3, 0));
        x.tear(2);
        C.due("torn out", Check.NOT_FOUND, x.at(1, 2));
    }

    private static void collectorOf() {
        FairBooks x = fair();
        C.due("collector -1", Check.INVALID, x.collectorOf(-1, 0));
        C.due("collector 4", Check.INVALID, x.collectorOf(4, 0));
        C.due("what -1", Check.INVALID, x.collectorOf(0, -1));
        C.due("what 9", Check.INVALID, x.collectorOf(0, 9));
        x.coins(1, 1234);
        int worth = 110 + 390 + 27 + 65 + 50;
        int[] of1 = {1234, 3, 4, worth, worth + 1234, 3, 1, 2, 1};
        int[] of3 = {100, 1, 1, 130, 230, 2, 0, 1, 0};
        int[] of0 = {100, 0, 0, 0, 100, 0, 0, 0, 0};
        for (int what = 0; what <= 8; what++) {
            C.due("of 1, " + what, of1[what], x.collectorOf(1, what));
            C.due("of 3, " + what, of3[what], x.collectorOf(3, what));
            C.due("of 0, " + what, of0[what], x.collectorOf(0, what));
        }
    }

    private static void wholeThemes() {
        FairBooks x = new FairBooks();
        C.due("no name of any theme", 0, x.collectorOf(2, 6));
        x.name(10, 3);
        x.name(10, 3);
        x.name(10, 1);
        for (int i = 0; i < 3; i++) {
            x.leaf(2);
        }
        C.due("one of two", 100, x.sign(0, 0, 0));
        C.due("not whole", 0, x.collectorOf(2, 6));
        x.over(0, 1);
        C.due("whole with one over two pages", 8, x.collectorOf(2, 6));
        C.due("25 for each", 300, x.collectorOf(2, 3));
        x.sign(2, 1, 2);
        C.due("two whole themes", 10, x.collectorOf(2, 6));
        C.due("75 for all", 425, x.collectorOf(2, 3));
        C.due("names", 7, x.collectorOf(2, 5));
        x.tear(1);
        C.due("one is left", 2, x.collectorOf(2, 6));
        C.due("its name", 4, x.collectorOf(2, 5));
    }

    private static void nameOf() {
        FairBooks x = fair();
        C.due("no name", Check.INVALID, x.nameOf(3, 0));
        C.due("name -1", Check.INVALID, x.nameOf(-1, 0));
        C.due("what -1", Check.INVALID, x.nameOf(0, -1));
        C.due("what 4", Check.INVALID, x.nameOf(0, 4));
        int[][] due = {{11, 0, 2, 2}, {13, 0, 3, 10}, {17, 2, 0, 0}};
        for (int name = 0; name < 3; name++) {
            for (int what = 0; what < 4; what++) {
                C.due("nameOf " + name + " " + what, due[name][what], x.nameOf(name, what));
            }
        }
        x.leaf(0);
        x.sign(4, 1, 1);
        x.leaf(2);
        x.sign(5, 1, 1);
        C.due("of all", 15, x.nameOf(1, 3));
        C.due("entries of all", 5, x.nameOf(1, 2));
    }
}
