import java.util.ArrayList;
import java.util.List;
import java.util.function.ToIntFunction;

/** Sentences of the part "Changes and errors" of "Terms", with the constants. */
final class ChangesSentences extends Sentences {
    /** A call that is refused in the state that busy() makes. */
    private record Refused(String call, int error, ToIntFunction<FairBooks> made) {
    }

    ChangesSentences(Check check, Document document) {
        super(check, document);
    }

    @Override
    void all() {
        changes();
        recorded();
        historyOfFour();
        oldestIsDropped();
        notPossibleBehindInvalid();
        limitBehindInvalid();
        limitBehindNotPossible();
        notFoundBehindInvalid();
        notFoundBehindNotPossible();
        errorsChangeNothing();
        noSuch();
        invalidArgument();
        notPossible();
        limitReached();
        notFound();
    }

    /** Names 0 to 2; the leaves 0, 1 2, 3 of 0, and 4 to 11 of 1; 1 coin of 0, 9999 of 2; a text that has a fault; 4 states. */
    private static FairBooks busy() {
        FairBooks x = named(0, 0, 1);
        leaves(x, 0, 4);
        leaves(x, 1, 8);
        x.leaf(2);
        x.sign(0, 0, 0);
        x.sign(4, 1, 1);
        x.dedicate(4, 1, 0);
        x.coins(2, 9999);
        Check.write(x, "l3;l0;t0,5;x");
        x.trade(0, 5, 99);
        x.trade(0, 5, 0);
        x.over(1, 0);
        x.dedicate(2, 0, 3);
        return x;
    }

    private static List<Refused> refusedCalls() {
        List<Refused> all = new ArrayList<>();
        all.add(new Refused("name(0, 0)", INVALID, x -> x.name(0, 0)));
        all.add(new Refused("name(51, 0)", INVALID, x -> x.name(51, 0)));
        all.add(new Refused("name(1, 4)", INVALID, x -> x.name(1, 4)));
        all.add(new Refused("leaf(4)", INVALID, x -> x.leaf(4)));
        all.add(new Refused("leaf(-1)", INVALID, x -> x.leaf(-1)));
        all.add(new Refused("leaf(1)", LIMIT, x -> x.leaf(1)));
        all.add(new Refused("sign(0, 2, 0)", INVALID, x -> x.sign(0, 2, 0)));
        all.add(new Refused("sign(0, 1, 3)", INVALID, x -> x.sign(0, 1, 3)));
        all.add(new Refused("sign(13, 1, 0)", INVALID, x -> x.sign(13, 1, 0)));
        all.add(new Refused("sign(0, 0, 1)", NOT_POSSIBLE, x -> x.sign(0, 0, 1)));
        all.add(new Refused("sign(2, 0, 1)", NOT_POSSIBLE, x -> x.sign(2, 0, 1)));
        all.add(new Refused("over(13, 0)", INVALID, x -> x.over(13, 0)));
        all.add(new Refused("over(2, 3)", INVALID, x -> x.over(2, 3)));
        all.add(new Refused("over(3, 0)", NOT_POSSIBLE, x -> x.over(3, 0)));
        all.add(new Refused("over(1, 1)", NOT_POSSIBLE, x -> x.over(1, 1)));
        all.add(new Refused("dedicate(0, 0, 4)", INVALID, x -> x.dedicate(0, 0, 4)));
        all.add(new Refused("dedicate(0, 2, 0)", INVALID, x -> x.dedicate(0, 2, 0)));
        all.add(new Refused("dedicate(3, 0, 0)", NOT_POSSIBLE, x -> x.dedicate(3, 0, 0)));
        all.add(new Refused("dedicate(1, 1, 0)", NOT_POSSIBLE, x -> x.dedicate(1, 1, 0)));
        all.add(new Refused("move(0, -1)", INVALID, x -> x.move(0, -1)));
        all.add(new Refused("move(0, 1)", NOT_POSSIBLE, x -> x.move(0, 1)));
        all.add(new Refused("move(0, 4)", NOT_POSSIBLE, x -> x.move(0, 4)));
        all.add(new Refused("trade(0, 4, 10000)", INVALID, x -> x.trade(0, 4, 10000)));
        all.add(new Refused("trade(0, 13, 0)", INVALID, x -> x.trade(0, 13, 0)));
        all.add(new Refused("trade(0, 3, 0)", NOT_POSSIBLE, x -> x.trade(0, 3, 0)));
        all.add(new Refused("trade(0, 4, 2)", NOT_POSSIBLE, x -> x.trade(0, 4, 2)));
        all.add(new Refused("trade(1, 4, 0)", LIMIT, x -> x.trade(1, 4, 0)));
        all.add(new Refused("trade(0, 12, 1)", LIMIT, x -> x.trade(0, 12, 1)));
        all.add(new Refused("tear(13)", INVALID, x -> x.tear(13)));
        all.add(new Refused("coins(0, 10000)", INVALID, x -> x.coins(0, 10000)));
        all.add(new Refused("coins(4, 0)", INVALID, x -> x.coins(4, 0)));
        all.add(new Refused("pageOf(0, 0, 4)", INVALID, x -> x.pageOf(0, 0, 4)));
        all.add(new Refused("pageOf(3, 0, 3)", NOT_FOUND, x -> x.pageOf(3, 0, 3)));
        all.add(new Refused("leafOf(0, 4)", INVALID, x -> x.leafOf(0, 4)));
        all.add(new Refused("at(0, -1)", INVALID, x -> x.at(0, -1)));
        all.add(new Refused("at(0, 4)", NOT_FOUND, x -> x.at(0, 4)));
        all.add(new Refused("collectorOf(0, 9)", INVALID, x -> x.collectorOf(0, 9)));
        all.add(new Refused("nameOf(3, 0)", INVALID, x -> x.nameOf(3, 0)));
        all.add(new Refused("gain(0, 4, 0, 2)", INVALID, x -> x.gain(0, 4, 0, 2)));
        all.add(new Refused("gain(0, 1, 0, 0)", NOT_POSSIBLE, x -> x.gain(0, 1, 0, 0)));
        all.add(new Refused("fair(0, 13)", INVALID, x -> x.fair(0, 13)));
        all.add(new Refused("fair(0, 1)", NOT_POSSIBLE, x -> x.fair(0, 1)));
        all.add(new Refused("fair(3, 12)", NOT_FOUND, x -> x.fair(3, 12)));
        all.add(new Refused("best(4, 0)", INVALID, x -> x.best(4, 0)));
        all.add(new Refused("best(3, 0)", NOT_FOUND, x -> x.best(3, 0)));
        all.add(new Refused("missing(0, 4)", INVALID, x -> x.missing(0, 4)));
        all.add(new Refused("mean(4)", INVALID, x -> x.mean(4)));
        all.add(new Refused("mean(2)", NOT_FOUND, x -> x.mean(2)));
        all.add(new Refused("count(10)", INVALID, x -> x.count(10)));
        all.add(new Refused("type(31)", INVALID, x -> x.type(31)));
        all.add(new Refused("type(127)", INVALID, x -> x.type(127)));
        all.add(new Refused("fault(3)", INVALID, x -> x.fault(3)));
        all.add(new Refused("play()", NOT_POSSIBLE, x -> x.play()));
        return all;
    }

    private void changes() {
        of("Changes and errors", "The changes are the calls of name, leaf, sign, over, dedicate, move, trade, tear, coins and play that return no error.");
        FairBooks x = new FairBooks();
        x.name(1, 0);
        due("name", 1, x.count(8));
        x.leaf(0);
        due("leaf", 2, x.count(8));
        x.sign(0, 0, 0);
        due("sign", 3, x.count(8));
        x.dedicate(0, 0, 0);
        due("dedicate", 4, x.count(8));
        due("undo()", 3, x.undo());
        due("undo()", 2, x.undo());
        x.leaf(0);
        due("leaf again", 3, x.count(8));
        x.over(0, 0);
        due("over", 4, x.count(8));
        due("undo()", 3, x.undo());
        due("undo()", 2, x.undo());
        x.move(0, 0);
        due("move, to where it is", 3, x.count(8));
        x.coins(0, 100);
        due("coins, as many as there were", 4, x.count(8));
        due("undo()", 3, x.undo());
        due("undo()", 2, x.undo());
        x.play();
        due("play, of no order", 3, x.count(8));
        x.tear(0);
        due("tear", 4, x.count(8));
        FairBooks y = new FairBooks();
        y.leaf(0);
        y.leaf(1);
        y.trade(0, 1, 0);
        due("trade", 3, y.count(8));
        y.type('l');
        y.clearText();
        due("type and clearText are no changes", 3, y.count(8));
        y.pageOf(0, 0, 0);
        y.leafOf(0, 0);
        y.at(0, 0);
        y.collectorOf(0, 0);
        y.nameOf(0, 0);
        y.gain(0, 1, 0, 0);
        y.fair(0, 1);
        y.best(0, 0);
        y.missing(0, 0);
        y.mean(0);
        y.count(0);
        y.fault(0);
        due("nor is any question", 3, y.count(8));
        y.leaf(4);
        y.trade(0, 0, 0);
        due("nor is what returns an error", 3, y.count(8));
        y.undo();
        due("nor is undo", 2, y.count(8));
    }

    private void recorded() {
        of("Changes and errors", "each change records everything before it but the text");
        List<ToIntFunction<FairBooks>> all = List.of(x -> x.name(50, 2), x -> x.leaf(0), x -> x.sign(0, 1, 2), x -> x.over(2, 1),
            x -> x.dedicate(0, 0, 1), x -> x.move(0, 3), x -> x.trade(0, 5, 1), x -> x.tear(1), x -> x.coins(2, 0), x -> x.play());
        for (int i = 0; i < all.size(); i++) {
            FairBooks x = busy();
            Check.write(x, "l3;l0;");
            long before = picture(x);
            due("change " + i + " is possible", 1, all.get(i).applyAsInt(x) >= 0 ? 1 : 0);
            due("undo() of change " + i, 3, x.undo());
            due("all but the history is as before change " + i, before, picture(x));
        }
        FairBooks z = new FairBooks();
        Check.write(z, "l0;");
        z.leaf(1);
        z.clearText();
        Check.write(z, "l2;l3;");
        z.undo();
        due("a text that came behind it stays", 6, z.count(9));
        due("and is played", 2, z.play());
        due("the leaves", 1, z.collectorOf(2, 1));
    }

    private void historyOfFour() {
        of("Changes and errors", "A history of at most 4 states is kept");
        FairBooks x = new FairBooks();
        due("none at first", 0, x.count(8));
        due("undo() at first", NOT_POSSIBLE, x.undo());
        for (int i = 1; i <= 4; i++) {
            x.coins(0, i);
            due("states behind change " + i, i, x.count(8));
        }
        for (int i = 5; i <= 12; i++) {
            x.coins(0, i);
            due("states behind change " + i, 4, x.count(8));
        }
    }

    private void oldestIsDropped() {
        of("Changes and errors", "and if there are 5 states then, the oldest one is dropped.");
        for (int i = 4; i <= 6; i++) {
            FairBooks y = new FairBooks();
            for (int k = 1; k <= i; k++) {
                y.coins(0, 200 + k);
            }
            for (int left = 3; left >= 0; left--) {
                due("undo() behind " + i + " changes", left, y.undo());
                int ahead = left + i - 4;
                due("coins, as they were behind " + ahead, ahead == 0 ? 100 : 200 + ahead, y.collectorOf(0, 0));
            }
            due("one undo() more", NOT_POSSIBLE, y.undo());
            due("coins stay", i == 4 ? 100 : 200 + i - 4, y.collectorOf(0, 0));
        }
    }

    private void notPossibleBehindInvalid() {
        of("Changes and errors", "If several errors apply to a call, INVALID_ARGUMENT is returned rather than NOT_POSSIBLE");
        FairBooks x = busy();
        due("sign, a page with an entry, no such name", INVALID, x.sign(0, 0, 3));
        due("over, the last leaf, no such name", INVALID, x.over(3, 3));
        due("over, a back with an entry, no such name", INVALID, x.over(1, -1));
        due("dedicate, no entry, no such collector", INVALID, x.dedicate(3, 0, 4));
        due("dedicate, dedicated, no such collector", INVALID, x.dedicate(4, 1, -1));
        due("move, no such leaf, too great a place", INVALID, x.move(13, 9));
        due("trade, the same book, coins out of range", INVALID, x.trade(0, 3, 10000));
        due("trade, who pays has not so many, coins out of range", INVALID, x.trade(0, 4, -10000));
        due("trade, who pays has not so many, no such other leaf", INVALID, x.trade(0, 13, 2));
        due("gain, the same book, coins out of range", INVALID, x.gain(0, 3, -10000, 0));
        due("gain, the same book, whose out of range", INVALID, x.gain(0, 3, 0, 2));
        Check.write(x, "d0,0,0,4;");
        due("an order d, a page with an entry, no such collector", INVALID, x.fault(2));
    }

    private void limitBehindInvalid() {
        of("Changes and errors", "If several errors apply to a call, INVALID_ARGUMENT is returned");
        FairBooks x = new FairBooks();
        for (int i = 0; i < 16; i++) {
            x.name(1, 0);
        }
        due("name, 16 names, fame out of range", INVALID, x.name(51, 0));
        due("name, 16 names, theme out of range", INVALID, x.name(1, 4));
        for (int i = 0; i < 60; i++) {
            x.type('l');
        }
        due("type, 60 characters, too small", INVALID, x.type(31));
        due("type, 60 characters, too great", INVALID, x.type(127));
        FairBooks y = busy();
        due("trade, 9 leaves, coins out of range", INVALID, y.trade(1, 4, 10000));
        due("trade, too many coins, coins out of range", INVALID, y.trade(0, 12, 10000));
        for (int c = 0; c < 4; c++) {
            leaves(x, c, 8);
        }
        due("leaf, all books full, no such collector", INVALID, x.leaf(4));
    }

    private void limitBehindNotPossible() {
        of("Changes and errors", "NOT_POSSIBLE rather than LIMIT_REACHED");
        FairBooks x = busy();
        due("9 leaves", LIMIT, x.trade(1, 4, 0));
        due("9 leaves, who pays has not so many", NOT_POSSIBLE, x.trade(1, 4, 2));
        due("9 leaves, the other one has not so many", NOT_POSSIBLE, x.trade(1, 4, -200));
        due("10000 coins", LIMIT, x.trade(0, 12, 1));
        due("10001 coins, who pays has not so many", NOT_POSSIBLE, x.trade(0, 12, 2));
        due("10001 coins the other way, who pays has not so many", NOT_POSSIBLE, x.trade(12, 0, -2));
        due("the same book, too many coins", NOT_POSSIBLE, x.trade(12, 12, 1));
        x.leaf(2);
        due("the same book of two leaves, too many coins", NOT_POSSIBLE, x.trade(12, 13, 1));
    }

    private void notFoundBehindInvalid() {
        of("Changes and errors", "and LIMIT_REACHED rather than NOT_FOUND.");
        FairBooks x = new FairBooks();
        x.leaf(0);
        due("pageOf, no entry, what out of range", INVALID, x.pageOf(0, 0, 4));
        due("pageOf, no entry, what below 0", INVALID, x.pageOf(0, 0, -1));
        due("pageOf, no entry, no such side", INVALID, x.pageOf(0, 2, 0));
        due("at, not so many leaves, no such collector", INVALID, x.at(4, 9));
        due("best, none, what out of range", INVALID, x.best(0, 3));
        due("best, none, no such collector", INVALID, x.best(4, 0));
        due("mean, no entry, no such collector", INVALID, x.mean(4));
        due("fault, none, what out of range", INVALID, x.fault(3));
        due("fair, no such leaf", INVALID, x.fair(0, 1));
    }

    private void notFoundBehindNotPossible() {
        of("Changes and errors", "NOT_POSSIBLE rather than LIMIT_REACHED, and LIMIT_REACHED rather than NOT_FOUND.");
        FairBooks x = new FairBooks();
        leaves(x, 0, 2);
        x.leaf(1);
        due("fair, no coins that both like", NOT_FOUND, x.fair(0, 2));
        due("fair, the same book and no coins that both like", NOT_POSSIBLE, x.fair(0, 1));
        due("fair, a leaf with itself", NOT_POSSIBLE, x.fair(0, 0));
    }

    private void errorsChangeNothing() {
        of("Changes and errors", "A call that returns an error changes nothing.");
        for (Refused refused : refusedCalls()) {
            for (int undone = 0; undone <= 4; undone++) {
                FairBooks x = busy();
                FairBooks y = busy();
                due(refused.call(), refused.error(), refused.made().applyAsInt(x));
                due("states behind " + refused.call(), 4, x.count(8));
                for (int i = 0; i < undone; i++) {
                    due("undo() behind " + refused.call(), y.undo(), x.undo());
                }
                due(undone + " undone behind " + refused.call(), picture(y), picture(x));
            }
        }
        FairBooks x = new FairBooks();
        for (int i = 0; i < 16; i++) {
            x.name(1, 0);
        }
        for (int i = 0; i < 60; i++) {
            x.type('x');
        }
        long before = picture(x);
        due("name(1, 0), the 17th", LIMIT, x.name(1, 0));
        due("type('x'), the 61st", LIMIT, x.type('x'));
        due("all is as before", before, picture(x));
        due("states", 4, x.count(8));
        FairBooks y = new FairBooks();
        due("undo() of a new object", NOT_POSSIBLE, y.undo());
        due("it is as a new one", picture(new FairBooks()), picture(y));
        due("it has no state", 0, y.count(8));
        due("a change behind it", 0, y.leaf(0));
        due("is recorded", 1, y.count(8));
    }

    private void noSuch() {
        of("Changes and errors", "If there is no name, collector or leaf with a certain number (any more), this is INVALID_ARGUMENT.");
        int[] gone = {1, 2, 3, 4, -1, LEAST, MOST, 65536};
        for (int leaf : gone) {
            FairBooks x = named(0);
            leaves(x, 0, 1);
            leaves(x, 0, 2);
            leaves(x, 2, 1);
            x.over(1, 0);
            x.tear(1);
            x.tear(3);
            x.leaf(1);
            due("sign(" + leaf + ", 0, 0)", leaf == 4 ? 125 : INVALID, x.sign(leaf, 0, 0));
            if (leaf != 4) {
                due("over(" + leaf + ", 0)", INVALID, x.over(leaf, 0));
                due("dedicate(" + leaf + ", 0, 0)", INVALID, x.dedicate(leaf, 0, 0));
                due("move(" + leaf + ", 0)", INVALID, x.move(leaf, 0));
                due("trade(" + leaf + ", 0, 0)", INVALID, x.trade(leaf, 0, 0));
                due("trade(0, " + leaf + ", 0)", INVALID, x.trade(0, leaf, 0));
                due("tear(" + leaf + ")", INVALID, x.tear(leaf));
                due("pageOf(" + leaf + ", 0, 0)", INVALID, x.pageOf(leaf, 0, 0));
                due("leafOf(" + leaf + ", 0)", INVALID, x.leafOf(leaf, 0));
                due("gain(" + leaf + ", 0, 0, 0)", INVALID, x.gain(leaf, 0, 0, 0));
                due("gain(0, " + leaf + ", 0, 0)", INVALID, x.gain(0, leaf, 0, 0));
                due("fair(" + leaf + ", 0)", INVALID, x.fair(leaf, 0));
                due("fair(0, " + leaf + ")", INVALID, x.fair(0, leaf));
            }
        }
        int[] names = {1, 15, 16, -1, LEAST, MOST, 65536};
        for (int name : names) {
            FairBooks x = named(0, 1);
            x.undo();
            leaves(x, 0, 2);
            due("sign(0, 0, " + name + ")", INVALID, x.sign(0, 0, name));
            due("over(0, " + name + ")", INVALID, x.over(0, name));
            due("nameOf(" + name + ", 0)", INVALID, x.nameOf(name, 0));
        }
        for (int c : outside(0, 3)) {
            FairBooks x = named(0);
            x.leaf(0);
            x.sign(0, 0, 0);
            due("leaf(" + c + ")", INVALID, x.leaf(c));
            due("dedicate(0, 0, " + c + ")", INVALID, x.dedicate(0, 0, c));
            due("coins(" + c + ", 0)", INVALID, x.coins(c, 0));
            due("at(" + c + ", 0)", INVALID, x.at(c, 0));
            due("collectorOf(" + c + ", 0)", INVALID, x.collectorOf(c, 0));
            due("best(" + c + ", 0)", INVALID, x.best(c, 0));
            due("missing(" + c + ", 0)", INVALID, x.missing(c, 0));
            due("mean(" + c + ")", INVALID, x.mean(c));
        }
    }

    private void invalidArgument() {
        of("Changes and errors", "`INVALID_ARGUMENT = -1000001`: An argument is out of its range, or there is no such name, collector or leaf.");
        due("INVALID_ARGUMENT", -1000001, FairBooks.INVALID_ARGUMENT);
        due("name(0, 0)", -1000001, new FairBooks().name(0, 0));
        due("nameOf(0, 0)", -1000001, new FairBooks().nameOf(0, 0));
        due("leaf(4)", -1000001, new FairBooks().leaf(4));
        due("leafOf(0, 0)", -1000001, new FairBooks().leafOf(0, 0));
    }

    private void notPossible() {
        of("Changes and errors", "`NOT_POSSIBLE = -1000002`: The call is not possible in the present state.");
        due("NOT_POSSIBLE", -1000002, FairBooks.NOT_POSSIBLE);
        FairBooks x = new FairBooks();
        due("undo()", -1000002, x.undo());
        x.leaf(0);
        due("undo() then", 0, x.undo());
        due("undo() in the state of before", -1000002, x.undo());
    }

    private void limitReached() {
        of("Changes and errors", "`LIMIT_REACHED = -1000003`: A fixed limit has been reached.");
        due("LIMIT_REACHED", -1000003, FairBooks.LIMIT_REACHED);
        FairBooks x = new FairBooks();
        leaves(x, 0, 8);
        due("leaf(0)", -1000003, x.leaf(0));
        x.tear(0);
        due("leaf(0) when there is room again", 8, x.leaf(0));
    }

    private void notFound() {
        of("Changes and errors", "`NOT_FOUND = -1000004`: There is no such value.");
        due("NOT_FOUND", -1000004, FairBooks.NOT_FOUND);
        FairBooks x = new FairBooks();
        due("at(0, 0)", -1000004, x.at(0, 0));
        x.leaf(0);
        due("at(0, 0) then", 0, x.at(0, 0));
    }
}
