/** Sentences of "What it is" and of "Terms" about names, collectors, leaves, values and trades. */
final class TermsSentences extends Sentences {
    TermsSentences(Check check, Document document) {
        super(check, document);
    }

    @Override
    void all() {
        lastCall();
        wholeNumbers();
        roundedDown();
        sets();
        mostNames();
        collectors();
        numbersOfLeaves();
        places();
        orderOfPages();
        entryOnPage();
        entryOverTwoPages();
        cannotBeParted();
        bundle();
        bundleIsWhole();
        valueOfEntry();
        valueOfDedicated();
        valueInBook();
        wholeTheme();
        worthOfBook();
        wealth();
        tradePlaces();
        tradeCoins();
        tradeRoom();
        tradeLiked();
    }

    private void lastCall() {
        of("What it is", "An object is used for at most 512 calls after it has been made; what later calls answer is free.");
        FairBooks x = new FairBooks();
        for (int i = 0; i < 255; i++) {
            due("leaf(0), call " + (2 * i + 1), i, x.leaf(0));
            due("tear(" + i + "), call " + (2 * i + 2), 1, x.tear(i));
        }
        due("leaf(0), call 511", 255, x.leaf(0));
        due("count(4), call 512", 256, x.count(4));
        FairBooks y = new FairBooks();
        for (int i = 1; i <= 508; i++) {
            due("coins(0, " + i + "), call " + i, i == 1 ? 100 : i - 1, y.coins(0, i));
        }
        for (int left = 3; left >= 0; left--) {
            due("undo(), call " + (512 - left), left, y.undo());
        }
        FairBooks z = new FairBooks();
        for (int i = 0; i < 8; i++) {
            for (int length = 1; length <= 60; length++) {
                due("type('l')", length, z.type('l'));
            }
            due("clearText()", 60, z.clearText());
        }
        Check.write(z, "l0;l0;l0;");
        for (int i = 0; i < 13; i++) {
            due("fault(0)", NOT_FOUND, z.fault(0));
        }
        due("play(), call 512", 3, z.play());
    }

    private void wholeNumbers() {
        of("Terms", "All numbers are whole numbers, where no float is told.");
        FairBooks x = new FairBooks();
        x.name(1, 0);
        x.name(1, 0);
        x.leaf(0);
        x.sign(0, 0, 0);
        x.sign(0, 1, 0);
        due("dedicate(0, 1, 1), 10 and one half of 5", 12, x.dedicate(0, 1, 1));
        due("pageOf(0, 1, 3), one half of 5", 2, x.pageOf(0, 1, 3));
        due("mean(0), 6 as a float", Float.floatToIntBits(6f), x.mean(0));
        due("dedicate(0, 0, 1), 5 and one half of 5", 7, x.dedicate(0, 0, 1));
        due("mean(0), 3.5 as a float", Float.floatToIntBits(3.5f), x.mean(0));
    }

    private void roundedDown() {
        of("Terms", "All divisions are rounded down.");
        FairBooks x = new FairBooks();
        x.name(1, 0);
        x.name(49, 0);
        x.name(50, 0);
        leaves(x, 0, 7);
        x.over(0, 0);
        x.dedicate(0, 1, 1);
        due("one half of 15", 7, x.pageOf(0, 1, 3));
        x.over(1, 0);
        due("a further one, one half of 15", 7, x.pageOf(1, 1, 3));
        x.dedicate(1, 1, 1);
        due("one half of 7", 3, x.pageOf(1, 1, 3));
        x.sign(2, 1, 0);
        x.dedicate(2, 1, 2);
        due("one half of 5", 2, x.pageOf(2, 1, 3));
        x.over(3, 1);
        x.dedicate(3, 1, 3);
        due("one half of 735", 367, x.pageOf(3, 1, 3));
        x.over(4, 1);
        x.dedicate(4, 1, 3);
        due("one half of 367", 183, x.pageOf(4, 1, 3));
        x.over(5, 2);
        x.dedicate(6, 0, 3);
        due("one half of 750", 375, x.pageOf(6, 0, 3));
        due("the sum of those", 7 + 3 + 2 + 367 + 183 + 375 + 75, x.collectorOf(0, 3));
    }

    private void sets() {
        of("Terms", "Sets of names are told as bits: bit k is for the name k.");
        FairBooks x = new FairBooks();
        due("missing(0, 0) without names", 0, x.missing(0, 0));
        x.name(1, 0);
        for (int i = 1; i < 15; i++) {
            x.name(1, 1);
        }
        x.name(1, 2);
        due("missing(0, 0), the name 0", 1, x.missing(0, 0));
        due("missing(0, 2), the name 15", 32768, x.missing(0, 2));
        due("missing(0, 1), the names 1 to 14", 32766, x.missing(0, 1));
        due("collectorOf(0, 5) of an empty book", 0, x.collectorOf(0, 5));
        x.leaf(0);
        x.sign(0, 1, 15);
        due("collectorOf(0, 5), the name 15", 32768, x.collectorOf(0, 5));
        x.sign(0, 0, 0);
        due("collectorOf(0, 5), the names 0 and 15", 32769, x.collectorOf(0, 5));
    }

    private void mostNames() {
        of("Terms", "There are at most 16 names, numbered from 0, each with a fame (1 to 50) and a theme (0 to 3).");
        FairBooks x = new FairBooks();
        due("count(0) at first", 0, x.count(0));
        due("nameOf(0, 0) at first", INVALID, x.nameOf(0, 0));
        for (int i = 0; i < 16; i++) {
            due("name " + i, i, x.name(i == 0 ? 1 : 35 + i, i % 4));
        }
        due("the 17th", LIMIT, x.name(1, 0));
        due("count(0)", 16, x.count(0));
        due("the least fame", 1, x.nameOf(0, 0));
        due("the greatest fame", 50, x.nameOf(15, 0));
        due("the least theme", 0, x.nameOf(0, 1));
        due("the greatest theme", 3, x.nameOf(15, 1));
        due("nameOf(16, 0)", INVALID, x.nameOf(16, 0));
        FairBooks y = new FairBooks();
        due("fame 0", INVALID, y.name(0, 0));
        due("fame 51", INVALID, y.name(51, 0));
        due("theme -1", INVALID, y.name(1, -1));
        due("theme 4", INVALID, y.name(1, 4));
        due("count(0) then", 0, y.count(0));
    }

    private void collectors() {
        of("Terms", "There are 4 collectors, numbered from 0, each with coins (0 to 9999; 100 at first) and a book of at most 8 leaves (none at first).");
        FairBooks x = new FairBooks();
        due("collector -1", INVALID, x.collectorOf(-1, 0));
        due("collector 4", INVALID, x.collectorOf(4, 0));
        for (int c = 0; c < 4; c++) {
            due("coins of " + c + " at first", 100, x.collectorOf(c, 0));
            due("leaves of " + c + " at first", 0, x.collectorOf(c, 1));
            due("least coins of " + c, 100, x.coins(c, 0));
            due("most coins of " + c, 0, x.coins(c, 9999));
            due("one coin too many of " + c, INVALID, x.coins(c, 10000));
            due("coins of " + c + " below 0", INVALID, x.coins(c, -1));
            due("coins of " + c + " then", 9999, x.collectorOf(c, 0));
            for (int place = 0; place < 8; place++) {
                due("leaf " + place + " of " + c, 8 * c + place, x.leaf(c));
            }
            due("9th leaf of " + c, LIMIT, x.leaf(c));
            due("leaves of " + c + " then", 8, x.collectorOf(c, 1));
        }
    }

    private void numbersOfLeaves() {
        of("Leaves", "Leaves are numbered from 0 in the order in which they came (no number comes again); a leaf has a front and a back.");
        FairBooks x = named(0);
        due("the first leaf of all", 0, x.leaf(3));
        due("the next one, of another book", 1, x.leaf(0));
        due("tear(1)", 1, x.tear(1));
        due("behind it", 2, x.leaf(0));
        due("tear(0)", 1, x.tear(0));
        due("tear(2), none is left", 1, x.tear(2));
        due("number of the next one", 3, x.leaf(3));
        due("trade with another", 4, x.leaf(1));
        due("trade(3, 4, 0)", 2, x.trade(3, 4, 0));
        due("it is the same leaf in another book", 3, x.at(1, 0));
        Check.write(x, "l2;l2;");
        due("play()", 2, x.play());
        due("the first one of a text", 5, x.at(2, 0));
        due("the second one of a text", 6, x.at(2, 1));
        due("behind those of a text", 7, x.leaf(2));
        due("a number that is gone", INVALID, x.leafOf(1, 0));
        due("a number that has not come", INVALID, x.leafOf(8, 0));
        due("its front", 125, x.sign(7, 0, 0));
        due("its back", 175, x.sign(7, 1, 0));
        due("nothing below the front", INVALID, x.sign(7, -1, 0));
        due("nothing behind the back", INVALID, x.sign(7, 2, 0));
    }

    private void places() {
        of("Leaves", "In a book leaves have places, 0 for the first one.");
        FairBooks x = new FairBooks();
        due("at(1, 0) of an empty book", NOT_FOUND, x.at(1, 0));
        for (int place = 0; place < 8; place++) {
            x.leaf(1);
            due("at(1, " + place + ")", place, x.at(1, place));
            due("leafOf(" + place + ", 1)", place, x.leafOf(place, 1));
            due("at(1, " + (place + 1) + ")", NOT_FOUND, x.at(1, place + 1));
        }
        due("at(1, -1)", INVALID, x.at(1, -1));
        due("tear(0)", 1, x.tear(0));
        for (int place = 0; place < 7; place++) {
            due("then at(1, " + place + ")", place + 1, x.at(1, place));
            due("then leafOf(" + (place + 1) + ", 1)", place, x.leafOf(place + 1, 1));
        }
        due("then at(1, 7)", NOT_FOUND, x.at(1, 7));
    }

    private void orderOfPages() {
        of("Leaves", "The pages of a book are, one behind another, the front and the back of each leaf.");
        FairBooks x = named(0);
        leaves(x, 0, 8);
        for (int page = 15; page >= 0; page--) {
            due("sign on page " + page, 125 + 50 * (15 - page), x.sign(page / 2, page % 2, 0));
            due("its value, ahead of all others", 100, x.pageOf(page / 2, page % 2, 3));
            if (page < 15) {
                due("the value of the next page", 50, x.pageOf((page + 1) / 2, (page + 1) % 2, 3));
            }
        }
    }

    private void entryOnPage() {
        of("Leaves", "On a page there can be an entry: a name, and perhaps a collector to whom it is dedicated.");
        FairBooks x = named(0, 0);
        x.leaf(2);
        for (int what = 0; what <= 3; what++) {
            due("pageOf(0, 0, " + what + ") of an empty page", NOT_FOUND, x.pageOf(0, 0, what));
        }
        x.sign(0, 0, 1);
        due("the name", 1, x.pageOf(0, 0, 0));
        due("dedicated to nobody", NOT_FOUND, x.pageOf(0, 0, 1));
        due("the back is empty", NOT_FOUND, x.pageOf(0, 1, 0));
        due("another entry there", NOT_POSSIBLE, x.sign(0, 0, 0));
        x.sign(0, 1, 0);
        x.dedicate(0, 1, 0);
        due("dedicated to the collector 0", 0, x.pageOf(0, 1, 1));
        due("the front is not dedicated", NOT_FOUND, x.pageOf(0, 0, 1));
        x.dedicate(0, 0, 3);
        due("dedicated to the collector 3", 3, x.pageOf(0, 0, 1));
        due("dedicated once more", NOT_POSSIBLE, x.dedicate(0, 0, 3));
    }

    private void entryOverTwoPages() {
        of("Leaves", "An entry can be over two pages: the back of a leaf and the front of the next one in the book.");
        FairBooks x = named(0);
        x.leaf(0);
        x.leaf(1);
        x.leaf(0);
        due("over(0, 0), the next one is not the next number", 2, x.over(0, 0));
        due("the back", 1, x.pageOf(0, 1, 2));
        due("the next front", 1, x.pageOf(2, 0, 2));
        due("not the front", NOT_FOUND, x.pageOf(0, 0, 2));
        due("not the next back", NOT_FOUND, x.pageOf(2, 1, 2));
        due("not the next number", NOT_FOUND, x.pageOf(1, 0, 2));
        due("it is one entry", 1, x.count(2));
        due("the last leaf has no next one", NOT_POSSIBLE, x.over(2, 0));
        due("nor has the only one", NOT_POSSIBLE, x.over(1, 0));
    }

    private void cannotBeParted() {
        of("Leaves", "Then both leaves cannot be parted.");
        for (int leaf = 1; leaf <= 2; leaf++) {
            FairBooks x = named(0);
            leaves(x, 0, 4);
            x.over(1, 0);
            due("between them", NOT_POSSIBLE, x.move(0, 1));
            due("between them from behind", NOT_POSSIBLE, x.move(3, 2));
            due("move(" + leaf + ", 0)", 1, x.move(leaf, 0));
            book("moved by " + leaf, x, 0, 1, 2, 0, 3);
            x.leaf(1);
            due("trade(" + leaf + ", 4, 0)", 3, x.trade(leaf, 4, 0));
            book("traded by " + leaf, x, 1, 1, 2);
            due("tear(" + leaf + ")", 2, x.tear(leaf));
            due("the first one is gone", INVALID, x.leafOf(1, 0));
            due("the second one is gone", INVALID, x.leafOf(2, 0));
        }
    }

    private void bundle() {
        of("Leaves", "A bundle is a leaf with all that cannot be parted from it, by one or more such entries.");
        FairBooks x = named(0);
        leaves(x, 0, 8);
        for (int leaf = 0; leaf < 8; leaf++) {
            due("a leaf alone, " + leaf, 1, x.leafOf(leaf, 2));
        }
        x.sign(0, 0, 0);
        due("an entry on one page joins nothing", 8, x.collectorOf(0, 7));
        for (int leaf = 0; leaf < 7; leaf++) {
            due("over(" + leaf + ", 0)", leaf + 2, x.over(leaf, 0));
            due("bundles then", 7 - leaf, x.collectorOf(0, 7));
        }
        for (int leaf = 0; leaf < 8; leaf++) {
            due("of all 8, " + leaf, 8, x.leafOf(leaf, 2));
            due("the first one of all 8, " + leaf, 0, x.leafOf(leaf, 3));
        }
    }

    private void bundleIsWhole() {
        of("Leaves", "A bundle is moved, traded or torn out whole, its leaves in their order.");
        for (int leaf = 1; leaf <= 3; leaf++) {
            FairBooks x = named(0);
            leaves(x, 0, 5);
            leaves(x, 3, 2);
            x.over(1, 0);
            x.over(2, 0);
            x.move(leaf, 2);
            book("moved by " + leaf, x, 0, 0, 4, 1, 2, 3);
            due("trade(" + leaf + ", 6, 0)", 4, x.trade(leaf, 6, 0));
            book("traded by " + leaf, x, 3, 5, 1, 2, 3);
            book("for it", x, 0, 0, 4, 6);
            due("tear(" + leaf + ")", 3, x.tear(leaf));
            book("torn out by " + leaf, x, 3, 5);
        }
        FairBooks y = named(0);
        leaves(y, 0, 8);
        for (int leaf = 0; leaf < 7; leaf++) {
            y.over(leaf, 0);
        }
        y.leaf(1);
        due("a whole book for a leaf", 9, y.trade(8, 3, 0));
        book("a whole book", y, 1, 0, 1, 2, 3, 4, 5, 6, 7);
        due("a whole book is moved", 0, y.move(7, 0));
        due("a whole book is torn out", 8, y.tear(4));
        book("none is left", y, 1);
    }

    private void valueOfEntry() {
        of("Values", "The value of an entry for a collector: 10 times the fame of its name, 15 times if it is over two pages");
        int[] fames = {1, 2, 25, 49, 50};
        for (int fame : fames) {
            FairBooks x = new FairBooks();
            x.name(fame, 0);
            leaves(x, 0, 2);
            leaves(x, 1, 1);
            x.sign(2, 1, 0);
            x.over(0, 0);
            due("fame " + fame, 10 * fame, x.pageOf(2, 1, 3));
            due("over two pages, fame " + fame, 15 * fame, x.pageOf(0, 1, 3));
            due("by its second page, fame " + fame, 15 * fame, x.pageOf(1, 0, 3));
        }
    }

    private void valueOfDedicated() {
        of("Values", "twice that if it is dedicated to the collector, half if it is dedicated to another one.");
        int[] fames = {1, 2, 25, 49, 50};
        for (int fame : fames) {
            for (int c = 0; c < 4; c++) {
                FairBooks x = new FairBooks();
                x.name(fame, 0);
                leaves(x, 2, 2);
                leaves(x, 1, 1);
                x.sign(2, 1, 0);
                x.over(0, 0);
                x.dedicate(2, 1, c);
                x.dedicate(1, 0, c);
                String told = ", fame " + fame + ", dedicated to " + c;
                due("in the book of 1" + told, c == 1 ? 20 * fame : 5 * fame, x.pageOf(2, 1, 3));
                due("in the book of 2, over two pages" + told, c == 2 ? 30 * fame : 15 * fame / 2, x.pageOf(0, 1, 3));
                x.trade(2, 0, 0);
                due("in the book of 2" + told, c == 2 ? 20 * fame : 5 * fame, x.pageOf(2, 1, 3));
                due("in the book of 1, over two pages" + told, c == 1 ? 30 * fame : 15 * fame / 2, x.pageOf(0, 1, 3));
            }
        }
    }

    private void valueInBook() {
        of("Values", "In a book, of each name the first entry (in the order of pages) has its value for the owner, each further one half of that.");
        FairBooks x = named(0, 0, 0);
        leaves(x, 0, 4);
        x.leaf(1);
        x.sign(4, 0, 0);
        x.sign(0, 0, 0);
        due("the first one, whatever other books have", 100, x.pageOf(0, 0, 3));
        x.sign(0, 1, 1);
        due("the first one of another name", 100, x.pageOf(0, 1, 3));
        x.sign(1, 0, 0);
        due("the second one", 50, x.pageOf(1, 0, 3));
        x.over(1, 0);
        due("the third one, over two pages", 75, x.pageOf(1, 1, 3));
        due("by its second page", 75, x.pageOf(2, 0, 3));
        x.sign(2, 1, 0);
        x.dedicate(2, 1, 0);
        due("the fourth one is no less than one half", 100, x.pageOf(2, 1, 3));
        x.sign(3, 0, 1);
        x.dedicate(3, 0, 2);
        due("the second one of another name", 25, x.pageOf(3, 0, 3));
        x.tear(0);
        due("the second one is the first one then", 100, x.pageOf(1, 0, 3));
        due("and so of the other name", 50, x.pageOf(3, 0, 3));
        due("the third one stays a further one", 75, x.pageOf(1, 1, 3));
        x.move(3, 0);
        x.sign(3, 1, 0);
        due("the first one is a further one then", 50, x.pageOf(1, 0, 3));
    }

    private void wholeTheme() {
        of("Values", "A theme is whole in a book if there is an entry of each name that has this theme (and there is such a name): "
            + "then the book is worth 25 more for each of these names.");
        FairBooks x = new FairBooks();
        due("no theme is whole without names", 0, x.collectorOf(0, 6));
        leaves(x, 0, 8);
        due("nor is it worth more", 0, x.collectorOf(0, 3));
        for (int i = 0; i < 16; i++) {
            x.name(1, 3);
        }
        due("the first one of 16", 10, x.sign(0, 0, 0));
        for (int name = 1; name < 15; name++) {
            due("the name " + name, 10 * name + 10, x.sign(name / 2, name % 2, name));
            due("is not whole", 0, x.collectorOf(0, 6));
        }
        due("one twice is no other one", 155, x.sign(7, 1, 14));
        due("not whole yet", 0, x.collectorOf(0, 6));
        x.undo();
        due("the last one of 16", 160 + 16 * 25, x.sign(7, 1, 15));
        due("the theme 3 alone", 8, x.collectorOf(0, 6));
        FairBooks y = named(0, 1, 2, 3);
        leaves(y, 1, 3);
        leaves(y, 0, 1);
        due("a theme of one name", 125, y.sign(0, 0, 0));
        due("two themes", 250, y.sign(0, 1, 1));
        due("three themes", 375, y.sign(1, 0, 2));
        due("over two pages", 2, y.over(1, 3));
        due("four themes", 15, y.collectorOf(1, 6));
        due("100 more for them", 300 + 150 + 100, y.collectorOf(1, 3));
        due("none in another book", 0, y.collectorOf(0, 6));
        due("a name more of the theme 2", 4, y.name(50, 2));
        due("it is not whole any more", 11, y.collectorOf(1, 6));
        due("75 more", 300 + 150 + 75, y.collectorOf(1, 3));
    }

    private void worthOfBook() {
        of("Values", "The worth of a book is the sum of the values of its entries and what it is worth more for whole themes, for its owner.");
        FairBooks x = named(0, 1, 1);
        due("an empty book", 0, x.collectorOf(3, 3));
        leaves(x, 3, 2);
        x.leaf(2);
        due("empty leaves", 0, x.collectorOf(3, 3));
        due("one entry of a theme that is not whole", 100, x.sign(0, 0, 1));
        due("a whole theme too", 100 + 100 + 25, x.sign(1, 1, 0));
        x.over(0, 0);
        due("one over two pages, ahead of its double", 100 + 150 + 50 + 25, x.collectorOf(3, 3));
        due("to the owner", 200 + 150 + 50 + 25, x.dedicate(0, 0, 3));
        due("to another one", 200 + 75 + 50 + 25, x.dedicate(0, 1, 2));
        x.trade(0, 2, 0);
        due("for the new owner", 50 + 300 + 50 + 25, x.collectorOf(2, 3));
        due("nothing is left", 0, x.collectorOf(3, 3));
    }

    private void wealth() {
        of("Values", "The wealth of a collector is the worth of the book plus the coins.");
        FairBooks x = named(0, 0);
        due("an empty book and 100 coins", 100, x.collectorOf(1, 4));
        x.coins(1, 0);
        due("an empty book and no coins", 0, x.collectorOf(1, 4));
        x.leaf(1);
        x.sign(0, 0, 0);
        due("100 and no coins", 100, x.collectorOf(1, 4));
        x.coins(1, 9999);
        due("100 and 9999 coins", 10099, x.collectorOf(1, 4));
    }

    private void tradePlaces() {
        of("Trades", "In a trade of two bundles of unlike books each takes the place of the other one (that of its first leaf)");
        for (int one = 1; one <= 3; one++) {
            for (int other = 6; other <= 7; other++) {
                FairBooks x = named(0);
                leaves(x, 0, 5);
                leaves(x, 2, 4);
                x.over(1, 0);
                x.over(2, 0);
                x.over(6, 0);
                due("trade(" + one + ", " + other + ", 0)", 5, x.trade(one, other, 0));
                book("two leaves for three", x, 0, 0, 6, 7, 4);
                book("three leaves for two", x, 2, 5, 1, 2, 3, 8);
                due("trade(0, 8, 0), the first one and the last one", 2, x.trade(0, 8, 0));
                book("the last one at the place 0", x, 0, 8, 6, 7, 4);
                book("the first one at the end", x, 2, 5, 1, 2, 3, 0);
                due("trade in the same book", NOT_POSSIBLE, x.trade(5, 0, 0));
            }
        }
    }

    private void tradeCoins() {
        of("Trades", "and coins are paid from the owner of the first bundle to that of the second one (or the other way, if they are below 0).");
        FairBooks x = new FairBooks();
        x.leaf(1);
        x.leaf(3);
        due("30 coins", 2, x.trade(0, 1, 30));
        due("the first one pays", 70, x.collectorOf(1, 0));
        due("the second one is paid", 130, x.collectorOf(3, 0));
        due("-130 coins, the leaf 1 is the first one's then", 2, x.trade(1, 0, -130));
        due("the first one is paid", 200, x.collectorOf(1, 0));
        due("the second one pays", 0, x.collectorOf(3, 0));
        due("0 coins", 2, x.trade(0, 1, 0));
        due("nobody is paid", 200, x.collectorOf(1, 0));
        due("nobody pays", 0, x.collectorOf(3, 0));
        due("the others keep theirs", 100, x.collectorOf(0, 0));
        due("and so the last one", 100, x.collectorOf(2, 0));
    }

    private void tradeRoom() {
        of("Trades", "A book cannot have more than 8 leaves by it.");
        FairBooks x = named(0);
        leaves(x, 0, 8);
        leaves(x, 1, 2);
        x.over(8, 0);
        due("a book of 9", LIMIT, x.trade(0, 9, 0));
        due("a book of 9 on the other side", LIMIT, x.trade(9, 0, 0));
        x.tear(7);
        due("a book of 8", 3, x.trade(0, 9, 0));
        book("8 leaves", x, 0, 8, 9, 1, 2, 3, 4, 5, 6);
        x.leaf(1);
        due("the full book gives two for one", 3, x.trade(8, 10, 0));
        due("7 leaves", 7, x.collectorOf(0, 1));
    }

    private void tradeLiked() {
        of("Trades", "A trade is liked by a collector if the wealth is greater behind it.");
        FairBooks x = named(0, 0, 0);
        leaves(x, 0, 1);
        leaves(x, 1, 1);
        x.sign(0, 0, 0);
        x.dedicate(0, 0, 2);
        x.sign(1, 0, 1);
        due("one gains", 100050, x.gain(0, 1, 0, 0));
        due("as much as the other one loses", 100000 - 50, x.gain(0, 1, 0, 1));
        due("best(0, 0), the other one does not like it", NOT_FOUND, x.best(0, 0));
        due("best(1, 0), one does not like it oneself", NOT_FOUND, x.best(1, 0));
        due("fair(0, 1), none that both like", NOT_FOUND, x.fair(0, 1));
        x.dedicate(1, 0, 2);
        due("as wealthy as before", 100000, x.gain(0, 1, 0, 0));
        due("is not liked", NOT_FOUND, x.best(0, 0));
        FairBooks y = new FairBooks();
        y.name(1, 0);
        y.name(1, 0);
        leaves(y, 0, 2);
        leaves(y, 1, 2);
        y.sign(0, 0, 0);
        y.dedicate(0, 0, 2);
        y.sign(1, 0, 0);
        y.sign(2, 0, 0);
        y.dedicate(2, 0, 2);
        y.sign(3, 0, 0);
        due("a gain of 0", 100000, y.gain(0, 2, 0, 0));
        due("a gain of 0 of the other one", 100000, y.gain(0, 2, 0, 1));
        due("none is liked", NOT_FOUND, y.best(0, 2));
        due("nor with coins", NOT_FOUND, y.fair(0, 2));
        likedByOne();
    }

    /** The other one gains just 1: one half of 7 for one half of 5, both rounded down. */
    private void likedByOne() {
        FairBooks x = new FairBooks();
        x.name(1, 0);
        x.name(1, 0);
        leaves(x, 0, 2);
        leaves(x, 1, 2);
        x.over(0, 0);
        x.dedicate(0, 1, 3);
        x.sign(2, 0, 0);
        x.sign(3, 0, 0);
        x.dedicate(3, 0, 0);
        due("20 for 7", 100013, x.gain(0, 3, 0, 0));
        due("3 for 2", 100001, x.gain(0, 3, 0, 1));
        due("a gain of 1 is liked by the other one", 13, x.best(0, 2));
        due("a gain of 1 is liked by oneself", 1, x.best(1, 2));
        due("a coin more is not", 100000, x.gain(0, 3, -1, 1));
    }
}
