/** Sentences of the part "Texts" of "Terms", and of the promises 23 to 26. */
final class TextSentences extends Sentences {
    TextSentences(Check check, Document document) {
        super(check, document);
    }

    @Override
    void all() {
        mostCharacters();
        semicolon();
        orderOfLeaf();
        orderOfSign();
        orderOfDedicated();
        orderOfOver();
        orderOfTrade();
        numbers();
        position();
        reason();
        causeOfForm();
        causeOfCall();
        typeAppends();
        typeCharacter();
        typeReturns();
        typeInvalid();
        typeLimit();
        clearEmpties();
        clearReturns();
        faultTells();
        faultWhat();
        faultReturns();
        faultInvalid();
        faultNotFound();
        playDoesAll();
        playIsOneChange();
        playReturns();
        playNotPossible();
    }

    /** Two names, the leaves 0, 1, 2 of collector 0 and 3 of collector 1; the leaf 0 is signed on its front. */
    private static FairBooks some() {
        FairBooks x = named(0, 0);
        leaves(x, 0, 3);
        leaves(x, 1, 1);
        x.sign(0, 0, 0);
        return x;
    }

    private void fault(FairBooks x, String text, int position, int reason, int cause) {
        Check.write(x, text);
        due("fault(0) of " + text, position, x.fault(0));
        due("fault(1) of " + text, reason, x.fault(1));
        due("fault(2) of " + text, cause, x.fault(2));
        due("play() of " + text, NOT_POSSIBLE, x.play());
    }

    private void breaksOff(String text, int at) {
        fault(some(), text, 0, 1, at);
    }

    private void refused(String text, int error) {
        fault(some(), text, 0, 2, error);
    }

    private FairBooks played(String text, int orders) {
        FairBooks x = some();
        Check.write(x, text);
        due("fault(0) of " + text, NOT_FOUND, x.fault(0));
        due("play() of " + text, orders, x.play());
        return x;
    }

    private void mostCharacters() {
        of("Texts", "There is a text of at most 60 characters, initially empty");
        FairBooks x = new FairBooks();
        due("count(9) at first", 0, x.count(9));
        due("fault(0) at first", NOT_FOUND, x.fault(0));
        due("play() at first", 0, x.play());
        Check.write(x, "l0;l1;l2;l3;l0;l1;l2;l3;l0;l1;l2;l3;l0;l1;l2;l3;l0;l1;l2;l3");
        due("count(9) of 59", 59, x.count(9));
        due("the last order is not whole", 57, x.fault(0));
        due("the 60th", 60, x.type(';'));
        due("all orders are", NOT_FOUND, x.fault(0));
        due("the 61st", LIMIT, x.type('l'));
        due("count(9)", 60, x.count(9));
        due("play()", 20, x.play());
    }

    private void semicolon() {
        of("Texts", "orders, each followed by \";\"");
        breaksOff("l0", 2);
        breaksOff("s1,0,0", 6);
        breaksOff("d1,0,0,0", 8);
        breaksOff("o1,0", 4);
        breaksOff("t1,3", 4);
        breaksOff("l0l1;", 2);
        breaksOff("l0,", 2);
        breaksOff(";", 0);
        breaksOff("l0 ;", 2);
        fault(some(), "l0;;", 3, 1, 0);
        fault(some(), "l0;l1", 3, 1, 2);
        played("l0;l1;", 2);
    }

    private void orderOfLeaf() {
        of("Texts", "\"l\" a collector (a leaf comes)");
        for (int c = 0; c <= 3; c++) {
            FairBooks x = played("l" + c + ";", 1);
            due("the owner of the leaf", c, x.leafOf(4, 0));
            due("leaves so far", 5, x.count(4));
        }
        refused("l4;", INVALID);
        breaksOff("l-1;", 1);
        breaksOff("l0,0;", 2);
        breaksOff("L0;", 0);
        FairBooks x = new FairBooks();
        leaves(x, 3, 8);
        fault(x, "l3;", 0, 2, LIMIT);
        x.tear(0);
        fault(x, "l3;l3;", 3, 2, LIMIT);
    }

    private void orderOfSign() {
        of("Texts", "\"s\" a leaf, \",\", a side (0 front, 1 back), \",\", a name (signed, not dedicated)");
        FairBooks x = played("s1,0,1;s1,1,0;", 2);
        due("the front", 1, x.pageOf(1, 0, 0));
        due("the back", 0, x.pageOf(1, 1, 0));
        due("not dedicated", NOT_FOUND, x.pageOf(1, 0, 1));
        due("nor the back", NOT_FOUND, x.pageOf(1, 1, 1));
        due("not over two pages", 0, x.pageOf(1, 1, 2));
        refused("s4,0,0;", INVALID);
        refused("s1,2,0;", INVALID);
        refused("s1,0,2;", INVALID);
        refused("s0,0,0;", NOT_POSSIBLE);
        refused("s0,0,2;", INVALID);
        breaksOff("s1,0;", 4);
        breaksOff("s1,0,0,0;", 6);
        breaksOff("s1 0,0;", 2);
    }

    private void orderOfDedicated() {
        of("Texts", "\"d\" a leaf, \",\", a side, \",\", a name, \",\", a collector (signed and dedicated; INVALID_ARGUMENT of both ahead of all)");
        for (int c = 0; c <= 3; c++) {
            FairBooks x = played("d1,1,1," + c + ";", 1);
            due("the name", 1, x.pageOf(1, 1, 0));
            due("to whom", c, x.pageOf(1, 1, 1));
            due("the front is empty", NOT_FOUND, x.pageOf(1, 0, 0));
        }
        refused("d4,0,0,0;", INVALID);
        refused("d1,2,0,0;", INVALID);
        refused("d1,0,2,0;", INVALID);
        refused("d1,0,0,4;", INVALID);
        refused("d0,0,0,0;", NOT_POSSIBLE);
        refused("d0,0,0,4;", INVALID);
        refused("d0,0,2,0;", INVALID);
        refused("d0,2,0,0;", INVALID);
        breaksOff("d1,0,0;", 6);
        breaksOff("d1,0,0,0,0;", 8);
        FairBooks x = some();
        x.dedicate(0, 0, 1);
        fault(x, "d0,0,0,1;", 0, 2, NOT_POSSIBLE);
    }

    private void orderOfOver() {
        of("Texts", "\"o\" a leaf, \",\", a name (signed over its back and the next front, not dedicated)");
        FairBooks x = played("o1,1;", 1);
        due("its back", 1, x.pageOf(1, 1, 0));
        due("the next front", 1, x.pageOf(2, 0, 0));
        due("over two pages", 1, x.pageOf(2, 0, 2));
        due("not dedicated", NOT_FOUND, x.pageOf(1, 1, 1));
        due("the bundle", 2, x.leafOf(1, 2));
        refused("o4,0;", INVALID);
        refused("o1,2;", INVALID);
        refused("o2,2;", INVALID);
        refused("o2,0;", NOT_POSSIBLE);
        refused("o3,0;", NOT_POSSIBLE);
        breaksOff("o1;", 2);
        breaksOff("o1,0,0;", 4);
        fault(some(), "s1,1,0;o1,0;", 7, 2, NOT_POSSIBLE);
        fault(some(), "s1,0,0;o0,0;", 7, 2, NOT_POSSIBLE);
        fault(some(), "o0,0;o0,1;", 5, 2, NOT_POSSIBLE);
    }

    private void orderOfTrade() {
        of("Texts", "or \"t\" a leaf, \",\", a leaf (traded without coins)");
        FairBooks x = played("t0,3;", 1);
        due("the first one's owner", 1, x.leafOf(0, 0));
        due("the second one's owner", 0, x.leafOf(3, 0));
        due("no coins of one", 100, x.collectorOf(0, 0));
        due("no coins of the other one", 100, x.collectorOf(1, 0));
        due("one trade so far", 1, x.count(3));
        refused("t4,3;", INVALID);
        refused("t0,4;", INVALID);
        refused("t0,1;", NOT_POSSIBLE);
        refused("t0,0;", NOT_POSSIBLE);
        breaksOff("t0;", 2);
        breaksOff("t0,3,0;", 4);
        FairBooks y = some();
        y.coins(0, 0);
        y.coins(1, 9999);
        Check.write(y, "t0,3;");
        due("whatever coins there are", 1, y.play());
        FairBooks z = some();
        leaves(z, 1, 7);
        fault(z, "o0,0;t0,3;", 5, 2, LIMIT);
    }

    private void numbers() {
        of("Texts", "numbers of 1 or 2 digits, 0 ahead allowed");
        FairBooks x = played("l3;l03;s01,00,01;d02,1,00,00;o01,0;t03,00;l00;", 7);
        due("the leaf of l03", 3, x.leafOf(5, 0));
        due("the name of s01,00,01", 1, x.pageOf(1, 0, 0));
        due("the collector of d02,1,00,00", 0, x.pageOf(2, 1, 1));
        breaksOff("l;", 1);
        breaksOff("l000;", 3);
        breaksOff("l003;", 3);
        breaksOff("l100;", 3);
        breaksOff("l+1;", 1);
        breaksOff("s001,0,0;", 3);
        breaksOff("s1,000,0;", 5);
        breaksOff("s1,0,000;", 7);
        breaksOff("d1,0,0,000;", 9);
        breaksOff("o1,000;", 5);
        breaksOff("t0,003;", 5);
        breaksOff("l/;", 1);
        breaksOff("l:;", 1);
        breaksOff("l0/;", 2);
        breaksOff("l0:;", 2);
        refused("l99;", INVALID);
        refused("l10;", INVALID);
        refused("s1,10,0;", INVALID);
        FairBooks y = new FairBooks();
        for (int i = 0; i < 10; i++) {
            y.name(10, 0);
        }
        y.name(10, 1);
        for (int leaf = 0; leaf < 98; leaf++) {
            y.leaf(0);
            y.tear(leaf);
        }
        leaves(y, 0, 3);
        due("the leaf with the greatest number of 3 digits", 100, y.at(0, 2));
        Check.write(y, "s99,0,10;s98,1,09;");
        due("the greatest number of 2 digits", 2, y.play());
        due("the name 10", 10, y.pageOf(99, 0, 0));
        due("the name 9", 9, y.pageOf(98, 1, 0));
        fault(y, "s100,0,0;", 0, 1, 3);
        fault(y, "s97,0,0;", 0, 2, INVALID);
    }

    private void position() {
        of("Texts", "The fault of the text is the position, from 0, of the first character of the first order that is not possible");
        fault(some(), "x", 0, 1, 0);
        fault(some(), "l4;", 0, 2, INVALID);
        fault(some(), "l0;x", 3, 1, 0);
        fault(some(), "l0;l4;", 3, 2, INVALID);
        fault(some(), "l00;o0,0;l4;x", 9, 2, INVALID);
        fault(some(), "l00;o0,0;x;l4;", 9, 1, 0);
        fault(new FairBooks(), "l0;l0;l0;l0;l0;l0;l0;l0;l1;l1;l1;l1;l1;l1;l1;l1;l2;l3;l2;l3 ", 57, 1, 2);
        fault(new FairBooks(), "l2;l2;l2;l2;l2;l2;l2;l2;l1;l1;l1;l1;l1;l1;l1;l1;l0;l0;l0;l1;", 57, 2, LIMIT);
        fault(new FairBooks(), "l2;l2;l2;l2;l2;l2;l2;l2;l1;l1;l1;l1;l1;l1;l1;l1;l0;l0;l0;l0l", 57, 1, 2);
        fault(new FairBooks(), "l2;l2;l2;l2;l2;l2;l2;l02;l1;l1;l1;l1;l1;l1;l1;l1;l0;l0;l0;l0", 58, 1, 2);
    }

    private void reason() {
        of("Texts", "its reason is 1 if it is not of this form, its \";\" included, and otherwise 2, when those ahead of it are done");
        fault(some(), "l4", 0, 1, 2);
        fault(some(), "l4;", 0, 2, INVALID);
        fault(some(), "s4,0,0", 0, 1, 6);
        fault(some(), "s4,0,0;", 0, 2, INVALID);
        fault(some(), "s1,0,0;s1,0,0;", 7, 2, NOT_POSSIBLE);
        fault(some(), "t0,3;t0,3;t0,1;t0,2;", 10, 2, NOT_POSSIBLE);
        FairBooks x = played("t0,3;t1,0;", 2);
        due("possible behind the first one alone", 1, x.at(1, 0));
        fault(some(), "l2;o4,0;", 3, 2, NOT_POSSIBLE);
        played("l2;l2;o4,0;", 3);
    }

    private void causeOfForm() {
        of("Texts", "its cause is with the reason 1 at which character of the order, from 0, it breaks off (of one that the text ends too early it is its length)");
        String order = "d01,00,01,03;";
        for (int end = 1; end < order.length(); end++) {
            breaksOff(order.substring(0, end), end);
        }
        String ahead = "l0;l02;";
        for (int end = 1; end < order.length(); end++) {
            fault(some(), ahead + order.substring(0, end), 7, 1, end);
            fault(some(), ahead + order.substring(0, end) + "x" + order.substring(end), 7, 1, end);
        }
        fault(some(), ahead + "xd01,00,01,03;", 7, 1, 0);
        breaksOff("s", 1);
        breaksOff("s;", 1);
        breaksOff("s,", 1);
        breaksOff("s1,,0;", 3);
        breaksOff("s1,0,;", 5);
        breaksOff("o,0;", 1);
        breaksOff("t0,;", 3);
        breaksOff("t0,3 ", 4);
        breaksOff(" t0,3;", 0);
        breaksOff("~", 0);
    }

    private void causeOfCall() {
        of("Texts", "and with the reason 2 the error code that the call returns for it.");
        refused("l4;", INVALID);
        refused("s0,0,0;", NOT_POSSIBLE);
        refused("o2,1;", NOT_POSSIBLE);
        refused("d0,0,1,2;", NOT_POSSIBLE);
        refused("t1,2;", NOT_POSSIBLE);
        refused("t1,5;", INVALID);
        fault(some(), "l1;l1;l1;l1;l1;l1;l1;l1;", 21, 2, LIMIT);
        fault(some(), "l1;l1;l1;l1;l1;l1;l1;o1,1;t2,3;", 26, 2, LIMIT);
    }

    private void typeAppends() {
        of("Promise 23", "Appends a character to the text.");
        FairBooks x = new FairBooks();
        x.type('l');
        due("fault(2) of l", 1, x.fault(2));
        x.type('2');
        due("fault(2) of l2", 2, x.fault(2));
        x.type(';');
        due("fault(2) of l2;", NOT_FOUND, x.fault(2));
        x.type('x');
        due("fault(0) of l2;x", 3, x.fault(0));
        due("nothing is done", 0, x.count(1));
    }

    private void typeCharacter() {
        of("Promise 23", "`character`: 32 to 126");
        FairBooks x = new FairBooks();
        FairBooks y = new FairBooks();
        for (int i = 32; i <= 126; i++) {
            due("type(" + i + ")", i < 80 ? i - 31 : i - 79, i < 80 ? x.type(i) : y.type(i));
        }
    }

    private void typeReturns() {
        of("Promise 23", "Returns the length of the text");
        FairBooks x = new FairBooks();
        for (int length = 1; length <= 60; length++) {
            due("type(' ')", length, x.type(' '));
            due("count(9)", length, x.count(9));
        }
        x.clearText();
        due("type(' ') behind clearText()", 1, x.type(' '));
    }

    private void typeInvalid() {
        of("Promise 23", "INVALID_ARGUMENT if character is out of range");
        FairBooks x = new FairBooks();
        for (int character : outside(32, 126)) {
            due("type(" + character + ")", INVALID, x.type(character));
        }
        due("type(0)", INVALID, x.type(0));
        due("type('l' + 128)", INVALID, x.type('l' + 128));
        due("type('l' + 256)", INVALID, x.type('l' + 256));
        due("type('l' + 65536)", INVALID, x.type('l' + 65536));
        due("count(9)", 0, x.count(9));
    }

    private void typeLimit() {
        of("Promise 23", "LIMIT_REACHED if it has 60 characters.");
        FairBooks x = new FairBooks();
        for (int i = 0; i < 60; i++) {
            due("type('l')", i + 1, x.type('l'));
        }
        due("the 61st", LIMIT, x.type('l'));
        due("once more", LIMIT, x.type(';'));
        due("count(9)", 60, x.count(9));
        due("clearText()", 60, x.clearText());
        due("then there is room", 1, x.type('l'));
    }

    private void clearEmpties() {
        of("Promise 24", "Empties the text.");
        FairBooks x = new FairBooks();
        Check.write(x, "l0;x");
        x.clearText();
        due("count(9)", 0, x.count(9));
        due("fault(0)", NOT_FOUND, x.fault(0));
        due("play()", 0, x.play());
        x.type('l');
        due("what was there is gone", 1, x.fault(2));
        due("it begins at 0", 0, x.fault(0));
    }

    private void clearReturns() {
        of("Promise 24", "Returns the length it had.");
        FairBooks x = new FairBooks();
        due("clearText() of an empty text", 0, x.clearText());
        Check.write(x, "l");
        due("clearText() of 1", 1, x.clearText());
        due("clearText() once more", 0, x.clearText());
        for (int i = 0; i < 61; i++) {
            x.type('x');
        }
        due("clearText() of a full text", 60, x.clearText());
    }

    private void faultTells() {
        of("Promise 25", "Tells about the fault of the text.");
        FairBooks x = some();
        Check.write(x, "l0;t0,3;s0,0,0;");
        long before = picture(x);
        due("fault(0)", 8, x.fault(0));
        due("it changes nothing", before, picture(x));
        x.tear(0);
        due("fault(0) in another state", 3, x.fault(0));
        x.undo();
        due("fault(0) behind undo()", 8, x.fault(0));
    }

    private void faultWhat() {
        of("Promise 25", "`what`: 0: its position; 1: its reason; 2: its cause");
        FairBooks x = some();
        Check.write(x, "l0;l1;o3,2;");
        due("position", 6, x.fault(0));
        due("reason", 2, x.fault(1));
        due("cause", INVALID, x.fault(2));
        Check.write(x, "l0;l1;o3,");
        due("position of another", 6, x.fault(0));
        due("reason of another", 1, x.fault(1));
        due("cause of another", 3, x.fault(2));
    }

    private void faultReturns() {
        of("Promise 25", "Returns that");
        FairBooks x = new FairBooks();
        Check.write(x, "-");
        due("the least position", 0, x.fault(0));
        due("the least cause", 0, x.fault(2));
        for (int i = 1; i < 60; i++) {
            x.type('-');
        }
        due("the least position of a full text", 0, x.fault(0));
        due("its cause", 0, x.fault(2));
        due("its reason", 1, x.fault(1));
    }

    private void faultInvalid() {
        of("Promise 25", "INVALID_ARGUMENT if what is out of range");
        FairBooks x = new FairBooks();
        FairBooks y = some();
        Check.write(y, "x");
        for (int what : outside(0, 2)) {
            due("fault(" + what + ") of an empty text", INVALID, x.fault(what));
            due("fault(" + what + ") of x", INVALID, y.fault(what));
        }
    }

    private void faultNotFound() {
        of("Promise 25", "NOT_FOUND if the text has no fault (also if it is empty).");
        FairBooks x = some();
        for (int what = 0; what <= 2; what++) {
            due("fault(" + what + ") of an empty text", NOT_FOUND, x.fault(what));
        }
        Check.write(x, "l2;s4,0,0;d4,1,0,2;l2;o5,0;");
        due("an order behind is not possible", 22, x.fault(0));
        Check.write(x, "l2;s4,0,0;d4,1,0,2;l2;t4,3;");
        for (int what = 0; what <= 2; what++) {
            due("fault(" + what + ") of a text that is possible", NOT_FOUND, x.fault(what));
        }
    }

    private void playDoesAll() {
        of("Promise 26", "Does all orders of the text, which stays.");
        FairBooks x = some();
        Check.write(x, "l2;s4,0,0;d4,1,1,2;o0,1;t3,4;");
        x.play();
        book("the leaf 3 for the leaf 4", x, 2, 3);
        book("the other way", x, 1, 4);
        due("signed", 0, x.pageOf(4, 0, 0));
        due("dedicated", 2, x.pageOf(4, 1, 1));
        due("over two pages", 1, x.pageOf(1, 0, 2));
        due("the text stays", 29, x.count(9));
        due("its fault behind it", 3, x.fault(0));
        FairBooks y = new FairBooks();
        Check.write(y, "l3;");
        for (int i = 1; i <= 8; i++) {
            due("play() of a text that stays", 1, y.play());
            due("leaves", i, y.collectorOf(3, 1));
        }
        due("the 9th leaf", NOT_POSSIBLE, y.play());
    }

    private void playIsOneChange() {
        of("Promise 26", "They are one change, also if there are none.");
        FairBooks x = new FairBooks();
        x.play();
        due("count(8), no orders", 1, x.count(8));
        Check.write(x, "l0;l1;l2;l3;l0;l1;");
        x.play();
        due("count(8), six orders", 2, x.count(8));
        due("undo()", 1, x.undo());
        due("all six are undone", 0, x.count(4));
        due("undo() of no orders", 0, x.undo());
        due("undo() more", NOT_POSSIBLE, x.undo());
    }

    private void playReturns() {
        of("Promise 26", "Returns how many there are in it");
        FairBooks x = new FairBooks();
        due("none", 0, x.play());
        Check.write(x, "l0;");
        due("one", 1, x.play());
        Check.write(x, "l0;l1;l2;l3;l0;l1;l2;l3;l0;l1;l2;l3;l0;l1;l2;l3;l0;l1;l2;l3;");
        due("20, as many as there can be", 20, x.play());
    }

    private void playNotPossible() {
        of("Promise 26", "NOT_POSSIBLE if it has a fault.");
        String[] faults = {"x", "l4;", "l0", "l0;l0;x", "l0;l0;l4;", ";", " "};
        for (String text : faults) {
            FairBooks x = some();
            Check.write(x, text);
            long before = picture(x);
            due("play() of " + text, NOT_POSSIBLE, x.play());
            due("nothing of it is done", before, picture(x));
            due("count(8)", 4, x.count(8));
        }
        FairBooks y = some();
        leaves(y, 0, 5);
        Check.write(y, "l0;");
        due("play() for a full book", NOT_POSSIBLE, y.play());
    }
}
