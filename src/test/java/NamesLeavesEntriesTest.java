/** Promises 1 to 6: a new object, name, leaf, sign, over, dedicate. */
public final class NamesLeavesEntriesTest {
    private static final Check C = new Check("NamesLeavesEntriesTest");

    public static void main(String[] args) {
        newObject();
        name();
        leaf();
        sign();
        signWorth();
        over();
        overTaken();
        dedicate();
        dedicateOver();
        C.end();
    }

    private static void newObject() {
        FairBooks x = new FairBooks();
        for (int c = 0; c < 4; c++) {
            C.due("new coins " + c, 100, x.collectorOf(c, 0));
            for (int what = 1; what <= 8; what++) {
                C.due("new collectorOf " + c + " " + what, what == 4 ? 100 : 0, x.collectorOf(c, what));
            }
            C.due("new at", Check.NOT_FOUND, x.at(c, 0));
        }
        for (int what = 0; what <= 9; what++) {
            C.due("new count " + what, 0, x.count(what));
        }
        C.due("new undo", Check.NOT_POSSIBLE, x.undo());
        C.due("new fault", Check.NOT_FOUND, x.fault(0));
        C.due("no name", Check.INVALID, x.nameOf(0, 0));
    }

    private static void name() {
        FairBooks x = new FairBooks();
        C.due("fame 0", Check.INVALID, x.name(0, 0));
        C.due("fame -1", Check.INVALID, x.name(-1, 0));
        C.due("fame 51", Check.INVALID, x.name(51, 0));
        C.due("theme -1", Check.INVALID, x.name(1, -1));
        C.due("theme 4", Check.INVALID, x.name(1, 4));
        C.due("least and most", Check.INVALID, x.name(Integer.MIN_VALUE, Integer.MAX_VALUE));
        C.due("no change", 0, x.count(8));
        for (int i = 0; i < 16; i++) {
            C.due("name " + i, i, x.name(i == 0 ? 1 : i == 15 ? 50 : i, i & 3));
        }
        C.due("17th", Check.LIMIT, x.name(1, 0));
        C.due("17th, out of range", Check.INVALID, x.name(51, 0));
        C.due("17th, theme out of range", Check.INVALID, x.name(1, 4));
        C.due("names", 16, x.count(0));
        C.due("states", 4, x.count(8));
        C.due("fame of 0", 1, x.nameOf(0, 0));
        C.due("fame of 15", 50, x.nameOf(15, 0));
        C.due("theme of 15", 3, x.nameOf(15, 1));
        C.due("theme of 14", 2, x.nameOf(14, 1));
        C.due("no 17th", Check.INVALID, x.nameOf(16, 0));
    }

    private static void leaf() {
        FairBooks x = new FairBooks();
        C.due("collector -1", Check.INVALID, x.leaf(-1));
        C.due("collector 4", Check.INVALID, x.leaf(4));
        C.due("no change", 0, x.count(8));
        for (int i = 0; i < 8; i++) {
            C.due("leaf of 0", 2 * i, x.leaf(0));
            C.due("leaf of 3", 2 * i + 1, x.leaf(3));
        }
        C.due("9th of 0", Check.LIMIT, x.leaf(0));
        C.due("9th of 3", Check.LIMIT, x.leaf(3));
        C.due("leaf of 1", 16, x.leaf(1));
        C.due("last place", 14, x.at(0, 7));
        C.due("first place", 1, x.at(3, 0));
        C.due("empty front", Check.NOT_FOUND, x.pageOf(16, 0, 0));
        C.due("empty back", Check.NOT_FOUND, x.pageOf(16, 1, 3));
        x.tear(14);
        C.due("no number again", 17, x.leaf(0));
        C.due("behind the last one", 17, x.at(0, 7));
        x.name(5, 0);
        x.sign(17, 0, 0);
        x.sign(17, 1, 0);
        x.tear(17);
        x.leaf(0);
        C.due("new leaf in an old place is empty", Check.NOT_FOUND, x.pageOf(18, 0, 0));
        C.due("its back too", Check.NOT_FOUND, x.pageOf(18, 1, 0));
        C.due("leaves so far", 19, x.count(4));
        C.due("leaves", 17, x.count(1));
    }

    private static void sign() {
        FairBooks x = new FairBooks();
        x.name(7, 1);
        x.name(9, 2);
        x.leaf(2);
        int states = x.count(8);
        C.due("no leaf", Check.INVALID, x.sign(1, 0, 0));
        C.due("leaf -1", Check.INVALID, x.sign(-1, 0, 0));
        C.due("side -1", Check.INVALID, x.sign(0, -1, 0));
        C.due("side 2", Check.INVALID, x.sign(0, 2, 0));
        C.due("name -1", Check.INVALID, x.sign(0, 0, -1));
        C.due("no name", Check.INVALID, x.sign(0, 0, 2));
        C.due("no change", states, x.count(8));
        C.due("front", 95, x.sign(0, 0, 0));
        C.due("one more state", states + 1, x.count(8));
        C.due("taken", Check.NOT_POSSIBLE, x.sign(0, 0, 0));
        C.due("taken by another", Check.NOT_POSSIBLE, x.sign(0, 0, 1));
        C.due("taken, no such name", Check.INVALID, x.sign(0, 0, 2));
        C.due("back", 95 + 90 + 25, x.sign(0, 1, 1));
        C.due("taken back", Check.NOT_POSSIBLE, x.sign(0, 1, 0));
        C.due("front name", 0, x.pageOf(0, 0, 0));
        C.due("back name", 1, x.pageOf(0, 1, 0));
        C.due("not dedicated", Check.NOT_FOUND, x.pageOf(0, 0, 1));
        C.due("not wide", 0, x.pageOf(0, 1, 2));
    }

    private static void signWorth() {
        FairBooks x = new FairBooks();
        x.name(3, 0);
        x.name(5, 0);
        x.name(1, 3);
        x.leaf(1);
        x.leaf(1);
        x.leaf(1);
        C.due("theme not whole", 50, x.sign(1, 0, 1));
        C.due("a double is one half", 75, x.sign(2, 1, 1));
        C.due("whole theme of two", 75 + 30 + 50, x.sign(0, 0, 0));
        C.due("a double ahead is the first one", 75 + 45 + 50, x.sign(0, 1, 0));
        C.due("a double ahead of the others", 155 + 15 + 25, x.sign(1, 1, 1));
        C.due("whole theme of one", 195 + 35, x.sign(2, 0, 2));
        C.due("another name parts a theme", 3, x.name(50, 3));
        C.due("not whole any more", 205, x.collectorOf(1, 3));
    }

    private static void over() {
        FairBooks x = new FairBooks();
        x.name(7, 0);
        x.name(9, 0);
        for (int i = 0; i < 8; i++) {
            x.leaf(0);
        }
        x.leaf(1);
        int states = x.count(8);
        C.due("no leaf", Check.INVALID, x.over(9, 0));
        C.due("leaf -1", Check.INVALID, x.over(-1, 0));
        C.due("no name", Check.INVALID, x.over(0, 2));
        C.due("name -1", Check.INVALID, x.over(0, -1));
        C.due("last one, no such name", Check.INVALID, x.over(7, 2));
        C.due("last one of 0", Check.NOT_POSSIBLE, x.over(7, 0));
        C.due("last one of 1", Check.NOT_POSSIBLE, x.over(8, 0));
        C.due("states", states, x.count(8));
        C.due("2 leaves", 2, x.over(2, 0));
        C.due("2 other leaves", 2, x.over(4, 1));
        C.due("both", 4, x.over(3, 0));
        C.due("one ahead", 5, x.over(1, 0));
        C.due("again", Check.NOT_POSSIBLE, x.over(1, 0));
        C.due("one behind", 6, x.over(5, 1));
        C.due("next to last", 7, x.over(6, 1));
        C.due("all", 8, x.over(0, 1));
        C.due("entries", 7, x.collectorOf(0, 2));
        C.due("bundles", 1, x.collectorOf(0, 7));
        C.due("other book", 1, x.leafOf(8, 2));
        C.due("value 15 times", 135, x.pageOf(0, 1, 3));
        C.due("half of 15 times 7", 52, x.pageOf(2, 1, 3));
        C.due("name on both", 1, x.pageOf(5, 0, 0));
        C.due("over two pages", 1, x.pageOf(5, 0, 2));
        C.due("over two pages, back", 1, x.pageOf(4, 1, 2));
    }

    private static void overTaken() {
        FairBooks x = new FairBooks();
        x.name(7, 0);
        x.leaf(0);
        x.leaf(0);
        x.leaf(0);
        x.sign(1, 0, 0);
        C.due("next front is taken", Check.NOT_POSSIBLE, x.over(0, 0));
        x.sign(1, 1, 0);
        C.due("back is taken", Check.NOT_POSSIBLE, x.over(1, 0));
        C.due("its worth stays", 70 + 35 + 25, x.collectorOf(0, 3));
        x.tear(1);
        C.due("behind it the leaves are next to each other", 2, x.over(0, 0));
        C.due("sign on its back", Check.NOT_POSSIBLE, x.sign(0, 1, 0));
        C.due("sign on the next front", Check.NOT_POSSIBLE, x.sign(2, 0, 0));
        C.due("the first front is free", 25 + 70 + 52, x.sign(0, 0, 0));
    }

    private static void dedicate() {
        FairBooks x = new FairBooks();
        x.name(7, 0);
        x.name(3, 1);
        x.name(1, 1);
        x.leaf(2);
        x.leaf(2);
        x.sign(0, 0, 0);
        x.sign(0, 1, 1);
        int states = x.count(8);
        C.due("no leaf", Check.INVALID, x.dedicate(2, 0, 0));
        C.due("side -1", Check.INVALID, x.dedicate(0, -1, 0));
        C.due("side 2", Check.INVALID, x.dedicate(0, 2, 0));
        C.due("collector -1", Check.INVALID, x.dedicate(0, 0, -1));
        C.due("collector 4", Check.INVALID, x.dedicate(0, 0, 4));
        C.due("no entry", Check.NOT_POSSIBLE, x.dedicate(1, 0, 0));
        C.due("no entry, collector 4", Check.INVALID, x.dedicate(1, 0, 4));
        C.due("states", states, x.count(8));
        C.due("to the owner: twice", 25 + 140 + 30, x.dedicate(0, 0, 2));
        C.due("again", Check.NOT_POSSIBLE, x.dedicate(0, 0, 2));
        C.due("again, collector 4", Check.INVALID, x.dedicate(0, 0, 4));
        C.due("to another", Check.NOT_POSSIBLE, x.dedicate(0, 0, 1));
        C.due("to another one: half", 25 + 140 + 15, x.dedicate(0, 1, 0));
        C.due("to whom", 2, x.pageOf(0, 0, 1));
        C.due("to collector 0", 0, x.pageOf(0, 1, 1));
        x.sign(1, 0, 1);
        C.due("double, to another: half of the half, down", 25 + 140 + 15 + 7, x.dedicate(1, 0, 3));
        C.due("to collector 3", 3, x.pageOf(1, 0, 1));
        C.due("7", 7, x.pageOf(1, 0, 3));
    }

    private static void dedicateOver() {
        FairBooks x = new FairBooks();
        x.name(7, 0);
        x.leaf(0);
        x.leaf(0);
        x.leaf(0);
        x.over(0, 0);
        x.over(1, 0);
        C.due("by its second page", 25 + 52 + 52, x.dedicate(1, 0, 1));
        C.due("it is the same by its first page", Check.NOT_POSSIBLE, x.dedicate(0, 1, 0));
        C.due("to whom, first page", 1, x.pageOf(0, 1, 1));
        C.due("to whom, second page", 1, x.pageOf(1, 0, 1));
        C.due("by its first page", 25 + 52 + 105, x.dedicate(1, 1, 0));
        C.due("it is the same by its second page", Check.NOT_POSSIBLE, x.dedicate(2, 0, 0));
        C.due("to whom, its second page", 0, x.pageOf(2, 0, 1));
        C.due("value on its second page", 105, x.pageOf(2, 0, 3));
        C.due("one dedicated to the owner", 1, x.collectorOf(0, 8));
        C.due("two dedicated", 2, x.count(7));
        C.due("still a bundle", 3, x.leafOf(2, 2));
    }
}
