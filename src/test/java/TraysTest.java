/** Promises 1 to 8: a new object, status, the fraction, trays. */
public final class TraysTest {
    public static void main(String[] args) {
        newObject();
        makeTrays();
        writeAndRead();
        pour();
        Court.end("TraysTest");
    }

    private static void newObject() {
        AskingCourt x = new AskingCourt();
        Court.due("status()", x.status(), 0);
        Court.due("top()", x.top(), 0);
        Court.due("bottom()", x.bottom(), 1);
        int[] told = {0, 0, 1, 0, 0, 0, 0, 0};
        for (int i = 0; i < told.length; i++) {
            Court.given(x, "told(" + i + ")", x.told(i), told[i]);
        }
        Court.given(x, "possible(0)", x.possible(0), 1);
        Court.given(x, "left()", x.left(), 1);
        Court.given(x, "isLeft(0)", x.isLeft(0), 1);
        Court.given(x, "fees()", x.fees(), 0);
        Court.given(x, "settled()", x.settled(), 0);
        Court.given(x, "bench()", x.bench(), 1);
        Court.given(x, "liars()", x.liars(), 0);
        for (int t = 0; t < 4; t++) {
            Court.refused(x, "read(" + t + ", 0)", x.read(t, 0), 2);
        }
        Court.refused(x, "sit(0)", x.sit(0), 6);
        Court.refused(x, "back()", x.back(), 6);
        Court.refused(x, "court(1)", x.court(1), 1);
        Court.due("fault(0)", x.fault(0), -1);
        Court.due("fault(1)", x.fault(1), -1);
        Court.given(x, "court(0)", x.court(0), 1);
    }

    private static void makeTrays() {
        AskingCourt x = new AskingCourt();
        Court.given(x, "tray(0, 0, 60)", x.tray(0, 0, 60));
        Court.given(x, "tray(3, 3, 0)", x.tray(3, 3, 0));
        Court.refused(x, "tray(-1, 0, 0)", x.tray(-1, 0, 0), 1);
        Court.refused(x, "tray(4, 0, 0)", x.tray(4, 0, 0), 1);
        Court.refused(x, "tray(0, -1, 0)", x.tray(0, -1, 0), 1);
        Court.refused(x, "tray(0, 4, 0)", x.tray(0, 4, 0), 1);
        Court.refused(x, "tray(0, 0, -1)", x.tray(0, 0, -1), 1);
        Court.refused(x, "tray(0, 0, 61)", x.tray(0, 0, 61), 1);
        Court.given(x, "read(0, 59)", x.read(0, 59), 0);
        Court.refused(x, "read(3, 0)", x.read(3, 0), 3);
        Court.refused(x, "read(1, 0)", x.read(1, 0), 2);
        x.write(0, 5, 7);
        Court.given(x, "tray(0, 1, 10)", x.tray(0, 1, 10));
        Court.given(x, "read(0, 5)", x.read(0, 5), 0);
        Court.refused(x, "read(0, 10)", x.read(0, 10), 3);
    }

    private static void writeAndRead() {
        AskingCourt x = new AskingCourt();
        long[] put = {300, 70000, 1L << 40 | 9, Long.MIN_VALUE};
        long[] cut = {44, 4464, 9, Long.MIN_VALUE};
        for (int t = 0; t < 4; t++) {
            x.tray(t, t, 3);
            Court.given(x, "write(" + t + ", 2, ..)", x.write(t, 2, put[t]));
            Court.given(x, "read(" + t + ", 2)", x.read(t, 2), cut[t]);
            Court.given(x, "write(" + t + ", 0, -1)", x.write(t, 0, -1));
            Court.given(x, "read(" + t + ", 0)", x.read(t, 0), -1);
            Court.refused(x, "write(" + t + ", 3, 1)", x.write(t, 3, 1), 3);
            Court.refused(x, "write(" + t + ", -1, 1)", x.write(t, -1, 1), 3);
            Court.refused(x, "read(" + t + ", -1)", x.read(t, -1), 3);
        }
        Court.given(x, "write(0, 1, 128)", x.write(0, 1, 128));
        Court.given(x, "read(0, 1)", x.read(0, 1), -128);
        Court.given(x, "write(1, 1, 32768)", x.write(1, 1, 32768));
        Court.given(x, "read(1, 1)", x.read(1, 1), -32768);
        Court.refused(x, "write(4, 0, 1)", x.write(4, 0, 1), 1);
        Court.refused(x, "read(-1, 0)", x.read(-1, 0), 1);
        AskingCourt y = new AskingCourt();
        Court.refused(y, "write(2, 0, 1)", y.write(2, 0, 1), 2);
        Court.refused(y, "write(2, -1, 1)", y.write(2, -1, 1), 2);
    }

    private static void pour() {
        AskingCourt x = new AskingCourt();
        x.tray(0, 2, 6);
        x.tray(1, 2, 4);
        x.tray(2, 3, 6);
        for (int i = 0; i < 6; i++) {
            x.write(0, i, i + 1);
        }
        Court.given(x, "pour(0, 0, 0, 2, 4)", x.pour(0, 0, 0, 2, 4));
        row(x, 0, 1, 2, 1, 2, 3, 4);
        Court.given(x, "pour(0, 1, 0, 0, 5)", x.pour(0, 1, 0, 0, 5));
        row(x, 0, 2, 1, 2, 3, 4, 4);
        Court.given(x, "pour(0, 2, 1, 0, 4)", x.pour(0, 2, 1, 0, 4));
        row(x, 1, 2, 3, 4, 4);
        Court.given(x, "pour(0, 0, 1, 0, 0)", x.pour(0, 0, 1, 0, 0));
        row(x, 1, 2, 3, 4, 4);
        Court.refused(x, "pour(0, 0, 1, 1, 4)", x.pour(0, 0, 1, 1, 4), 3);
        Court.refused(x, "pour(0, 3, 1, 0, 4)", x.pour(0, 3, 1, 0, 4), 3);
        Court.refused(x, "many too large", x.pour(0, 1, 1, 0, Integer.MAX_VALUE), 3);
        Court.refused(x, "unlike sorts ahead of places", x.pour(0, 50, 2, 0, 1), 8);
        Court.refused(x, "missing ahead of places", x.pour(0, 50, 3, 0, 1), 2);
        Court.refused(x, "pour(0, -1, 3, 0, 1)", x.pour(0, -1, 3, 0, 1), 1);
        Court.refused(x, "pour(0, 0, 1, -1, 1)", x.pour(0, 0, 1, -1, 1), 1);
        Court.refused(x, "pour(0, 0, 1, 0, -1)", x.pour(0, 0, 1, 0, -1), 1);
        Court.refused(x, "pour(4, 0, 1, 0, 1)", x.pour(4, 0, 1, 0, 1), 1);
        Court.refused(x, "pour(0, 0, -1, 0, 1)", x.pour(0, 0, -1, 0, 1), 1);
        row(x, 0, 2, 1, 2, 3, 4, 4);
        row(x, 1, 2, 3, 4, 4);
    }

    private static void row(AskingCourt x, int tray, long... due) {
        for (int i = 0; i < due.length; i++) {
            Court.given(x, "read(" + tray + ", " + i + ")", x.read(tray, i), due[i]);
        }
    }
}
