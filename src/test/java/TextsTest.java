/** Promises 23 to 26: type, clearText, fault, play. */
public final class TextsTest {
    private static final Check C = new Check("TextsTest");

    public static void main(String[] args) {
        type();
        clearText();
        noFault();
        badForm();
        badCalls();
        dedicatedOrder();
        firstFault();
        faultChangesNothing();
        play();
        playEachOrder();
        playLongText();
        C.end();
    }

    private static void type() {
        FairBooks x = new FairBooks();
        C.due("31", Check.INVALID, x.type(31));
        C.due("127", Check.INVALID, x.type(127));
        C.due("-1", Check.INVALID, x.type(-1));
        C.due("l and 65536", Check.INVALID, x.type('l' + 65536));
        for (int i = 1; i <= 60; i++) {
            C.due("length", i, x.type(i == 1 ? 32 : i == 2 ? 126 : 'x'));
        }
        C.due("61st", Check.LIMIT, x.type('x'));
        C.due("61st, out of range", Check.INVALID, x.type(31));
        C.due("length then", 60, x.count(9));
        C.due("no change", 0, x.count(8));
    }

    private static void clearText() {
        FairBooks x = new FairBooks();
        C.due("empty", 0, x.clearText());
        Check.write(x, "l1;");
        C.due("3", 3, x.clearText());
        C.due("0 then", 0, x.count(9));
        C.due("and again", 0, x.clearText());
        C.due("1 then", 1, x.type('l'));
        C.due("what was there is gone", 1, x.fault(2));
        C.due("no change", 0, x.count(8));
    }

    private static void faultIs(FairBooks x, String text, int position, int reason, int cause) {
        Check.write(x, text);
        C.due("position in " + text, position, x.fault(0));
        C.due("reason in " + text, reason, x.fault(1));
        C.due("cause in " + text, cause, x.fault(2));
        C.due("play of " + text, Check.NOT_POSSIBLE, x.play());
    }

    private static void fine(FairBooks x, String text) {
        Check.write(x, text);
        for (int what = 0; what <= 2; what++) {
            C.due("no fault " + what + " in " + text, Check.NOT_FOUND, x.fault(what));
        }
    }

    private static void noFault() {
        FairBooks x = new FairBooks();
        C.due("what -1", Check.INVALID, x.fault(-1));
        C.due("what 3", Check.INVALID, x.fault(3));
        fine(x, "");
        fine(x, "l0;");
        fine(x, "l03;l1;l02;l00;");
        x.name(1, 0);
        fine(x, "l3;s0,0,0;s00,01,00;");
        fine(x, "l3;l3;o0,0;d01,1,0,03;l0;t0,2;");
        C.due("what 3, no fault", Check.INVALID, x.fault(3));
        C.due("no change", 1, x.count(8));
    }

    private static void badForm() {
        String[] texts = {
            ";", "x", " ", "L0;", "0", ",", "l", "l;", "l,", "l-1;", "l0", "l0,", "l0 ;", "l00", "l000;", "l0;;", "l0; l0;",
            "s", "s,", "s0", "s0;", "s00;", "s0,", "s0,;", "s0,0;", "s0,0,", "s0,0,;", "s0,0,0", "s0,0,0,", "s0,0,000;",
            "s00,00,00", "s000,", "s0,000,", "s0,,0;",
            "d0,0,0;", "d0,0,0,", "d0,0,0,;", "d0,0,0,0", "d0,0,0,0,", "d00,00,00,000;", "d00,00,00;",
            "o0;", "o0,", "o0,;", "o0,0", "o0,0,0;", "o00,00,", "t0;", "t0,", "t0,0", "t0,0,", "t00,00,0;", "t+0,0;", "t0,/;", "t0,:;"
        };
        int[] causes = {
            0, 0, 0, 0, 0, 0, 1, 1, 1, 1, 2, 2, 2, 3, 3, 0, 0,
            1, 1, 2, 2, 3, 3, 3, 4, 5, 5, 6, 6, 7,
            9, 3, 5, 3,
            6, 7, 7, 8, 8, 12, 9,
            2, 3, 3, 4, 4, 6, 2, 3, 4, 4, 6, 1, 3, 3
        };
        for (int i = 0; i < texts.length; i++) {
            FairBooks x = new FairBooks();
            x.name(1, 0);
            x.leaf(0);
            faultIs(x, texts[i], texts[i].length() > 3 && texts[i].substring(0, 3).equals("l0;") ? 3 : 0, 1, causes[i]);
        }
        FairBooks y = new FairBooks();
        faultIs(y, "l0;l1;l2;l3;l0;x", 15, 1, 0);
        faultIs(y, "l0;l01;l2", 7, 1, 2);
    }

    private static void badCalls() {
        FairBooks x = new FairBooks();
        x.name(1, 0);
        x.leaf(0);
        x.leaf(1);
        faultIs(x, "l4;", 0, 2, Check.INVALID);
        faultIs(x, "l99;", 0, 2, Check.INVALID);
        faultIs(x, "s2,0,0;", 0, 2, Check.INVALID);
        faultIs(x, "s0,2,0;", 0, 2, Check.INVALID);
        faultIs(x, "s0,0,1;", 0, 2, Check.INVALID);
        faultIs(x, "s0,0,10;", 0, 2, Check.INVALID);
        faultIs(x, "s0,10,0;", 0, 2, Check.INVALID);
        faultIs(x, "o2,0;", 0, 2, Check.INVALID);
        faultIs(x, "o0,1;", 0, 2, Check.INVALID);
        faultIs(x, "o0,0;", 0, 2, Check.NOT_POSSIBLE);
        faultIs(x, "t0,2;", 0, 2, Check.INVALID);
        faultIs(x, "t2,0;", 0, 2, Check.INVALID);
        faultIs(x, "t0,0;", 0, 2, Check.NOT_POSSIBLE);
        faultIs(x, "s0,0,0;s0,0,0;", 7, 2, Check.NOT_POSSIBLE);
        faultIs(x, "s0,0,0;d0,0,0,0;", 7, 2, Check.NOT_POSSIBLE);
        faultIs(x, "l0;o0,0;s0,1,0;", 8, 2, Check.NOT_POSSIBLE);
        faultIs(x, "l0;l0;l0;l0;l0;l0;l0;l0;", 21, 2, Check.LIMIT);
        faultIs(x, "l0;l0;l0;l0;l0;l0;l0;l1;o1,0;t0,1;", 29, 2, Check.LIMIT);
        faultIs(x, "t0,1;t0,1;s0,2,0;", 10, 2, Check.INVALID);
        fine(x, "l0;l0;l0;l0;l0;l0;l0;");
        fine(x, "l1;l0;o0,0;t3,2;");
    }

    private static void dedicatedOrder() {
        FairBooks x = new FairBooks();
        x.name(1, 0);
        x.leaf(0);
        x.sign(0, 0, 0);
        faultIs(x, "d0,0,0,0;", 0, 2, Check.NOT_POSSIBLE);
        faultIs(x, "d0,0,0,4;", 0, 2, Check.INVALID);
        faultIs(x, "d0,1,0,4;", 0, 2, Check.INVALID);
        faultIs(x, "d1,1,0,3;", 0, 2, Check.INVALID);
        faultIs(x, "d0,2,0,3;", 0, 2, Check.INVALID);
        faultIs(x, "d0,1,1,3;", 0, 2, Check.INVALID);
        fine(x, "d0,1,0,3;");
        C.due("play", 1, x.play());
        C.due("dedicated", 3, x.pageOf(0, 1, 1));
        C.due("value", 2, x.pageOf(0, 1, 3));
        C.due("one change", 3, x.undo());
        C.due("gone", Check.NOT_FOUND, x.pageOf(0, 1, 0));
    }

    private static void firstFault() {
        FairBooks x = new FairBooks();
        faultIs(x, "l4;x", 0, 2, Check.INVALID);
        faultIs(x, "x;l4;", 0, 1, 0);
        faultIs(x, "l0;s1,0,0;l", 3, 2, Check.INVALID);
        x.name(2, 1);
        faultIs(x, "l0;s0,0,0;l", 10, 1, 1);
        Check.write(x, "s0,0,0;");
        C.due("no leaf yet", 0, x.fault(0));
        x.leaf(0);
        C.due("with the leaf", Check.NOT_FOUND, x.fault(0));
        x.undo();
        C.due("without it", Check.INVALID, x.fault(2));
    }

    private static void faultChangesNothing() {
        FairBooks x = new FairBooks();
        x.name(2, 1);
        Check.write(x, "l0;l1;s0,0,0;t0,1;o");
        int states = x.count(8);
        C.due("position", 18, x.fault(0));
        C.due("play", Check.NOT_POSSIBLE, x.play());
        C.due("leaves", 0, x.count(1));
        C.due("leaves so far", 0, x.count(4));
        C.due("trades", 0, x.count(3));
        C.due("states", states, x.count(8));
        C.due("text", 19, x.count(9));
    }

    private static void play() {
        FairBooks x = new FairBooks();
        C.due("no orders", 0, x.play());
        C.due("is a change", 1, x.count(8));
        Check.write(x, "l0;l1;l0;t2,1;");
        C.due("four", 4, x.play());
        C.due("one change more", 2, x.count(8));
        C.due("text stays", 14, x.count(9));
        C.due("trades", 1, x.count(3));
        C.due("leaves so far", 3, x.count(4));
        C.due("traded", 1, x.leafOf(2, 0));
        C.due("coins stay", 100, x.collectorOf(1, 0));
        C.due("again", 0 + Check.NOT_POSSIBLE, x.trade(2, 2, 0));
        x.trade(2, 1, 0);
        C.due("four more", 4, x.play());
        C.due("trades then", 3, x.count(3));
        C.due("undo", 3, x.undo());
        C.due("trades undone", 2, x.count(3));
        C.due("leaves undone", 3, x.count(1));
        C.due("text stays behind undo", 14, x.count(9));
        for (int i = 0; i < 6; i++) {
            x.play();
        }
        C.due("4 states at most", 4, x.count(8));
    }

    private static void playEachOrder() {
        FairBooks x = new FairBooks();
        x.name(10, 0);
        x.name(3, 1);
        Check.write(x, "l2;l02;s0,0,01;d1,1,0,2;o00,1;l3;t2,0;");
        C.due("orders", 7, x.play());
        C.due("one change", 3, x.count(8));
        C.due("signed", 1, x.pageOf(0, 0, 0));
        C.due("not dedicated", Check.NOT_FOUND, x.pageOf(0, 0, 1));
        C.due("signed and dedicated", 2, x.pageOf(1, 1, 1));
        C.due("by", 0, x.pageOf(1, 1, 0));
        C.due("over", 1, x.pageOf(1, 0, 2));
        C.due("over by", 1, x.pageOf(0, 1, 0));
        C.due("over is not dedicated", Check.NOT_FOUND, x.pageOf(0, 1, 1));
        C.due("traded", 3, x.leafOf(1, 0));
        C.due("traded there", 2, x.leafOf(2, 0));
        C.due("bundle", 2, x.leafOf(1, 2));
        C.due("worth", 30 + 22 + 50 + 50, x.collectorOf(3, 3));
    }

    private static void playLongText() {
        FairBooks x = new FairBooks();
        Check.write(x, "l0;l1;l2;l3;l0;l1;l2;l3;l0;l1;l2;l3;l0;l1;l2;l3;l0;l1;l2;l3;");
        C.due("full", 60, x.count(9));
        C.due("20 orders", 20, x.play());
        C.due("5 leaves of 3", 5, x.collectorOf(3, 1));
        C.due("last number", 19, x.at(3, 4));
        C.due("fault now", 36, x.fault(0));
        C.due("9th leaf", Check.LIMIT, x.fault(2));
        x.clearText();
        for (int i = 0; i < 11; i++) {
            x.name(1, 0);
        }
        fine(x, "s10,0,10;s19,1,09;o12,10;o13,07;t12,13;t17,18;");
        faultIs(x, "s20,0,0;", 0, 2, Check.INVALID);
        faultIs(x, "s10,0,11;", 0, 2, Check.INVALID);
        x.clearText();
        C.due("short text in the place of a long one", 1, x.type('l'));
        C.due("it is not what was there", 1, x.fault(1));
        C.due("its length", 1, x.fault(2));
    }
}
