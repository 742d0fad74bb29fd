/** Promises 1 to 8: a new object, STATUS, the FRACTION, TRAYS. */
public final class TraysTest {
    public static void main(String[] args) {
        newObject();
        statusAndFraction();
        tray();
        writeAndRead();
        pour();
        pourRefused();
        Check.end();
    }

    private static void newObject() {
        TinFen x = new TinFen();
        Check.due("new, status", x.status(), 0);
        Check.due("new, top", x.top(), 0);
        Check.due("new, bottom", x.bottom(), 1);
        Check.due("new, fault(0)", x.fault(0), -1);
        Check.due("new, fault(1)", x.fault(1), -1);
        for (int what = 0; what < 10; what++) {
            Check.fine("new, many " + what, x, x.many(what), what == 4 ? 8 : 0);
        }
        for (int i = 0; i < 4; i++) {
            Check.refused("new, read " + i, x, x.read(i, 0), 3);
        }
        Check.refused("new, live", x, x.live(0), 8);
        Check.refused("new, mean", x, x.mean(0, 1), 8);
        Check.refused("new, lived", x, x.lived(0), 8);
        Check.refused("new, back", x, x.back(), 8);
        Check.refused("new, fen(1)", x, x.fen(1), 5);
        Check.due("new, feed", x.feed(0, 0, 0, 0, 0), 20);
    }

    private static void statusAndFraction() {
        TinFen x = Check.ann();
        Check.refused("worth(3)", x, x.worth(3), 2);
        x.feed(0, 0, 0, 0, 0);
        x.fault(0);
        x.top();
        x.bottom();
        Check.due("status behind calls that have none", x.status(), 2);
        Check.due("status twice", x.status(), 2);
        Check.fraction("share(0)", x, x.share(0), 11, 18);
        Check.refused("share(4)", x, x.share(4), 2);
        Check.due("top stays", x.top(), 11);
        Check.due("bottom stays", x.bottom(), 18);
        Check.fine("worth(0)", x, x.worth(0), 5);
    }

    private static void tray() {
        TinFen x = new TinFen();
        Check.refused("tray -1", x, x.tray(-1, 0, 1), 1);
        Check.refused("tray 4", x, x.tray(4, 0, 1), 1);
        Check.refused("sort -1", x, x.tray(0, -1, 1), 1);
        Check.refused("sort 4", x, x.tray(0, 4, 61), 1);
        Check.refused("61 numbers", x, x.tray(0, 0, 61), 5);
        Check.refused("below 0", x, x.tray(0, 0, -1), 6);
        Check.refused("least", x, x.tray(0, 0, Integer.MIN_VALUE), 6);
        Check.refused("still MISSING", x, x.read(0, 0), 3);
        Check.fine("60 numbers", x, x.tray(3, 3, 60));
        Check.fine("place 59", x, x.read(3, 59), 0);
        Check.refused("place 60", x, x.read(3, 60), 4);
        Check.fine("write", x, x.write(3, 59, 7));
        Check.fine("anew", x, x.tray(3, 3, 60));
        Check.fine("all 0", x, x.read(3, 59), 0);
        Check.fine("none", x, x.tray(2, 0, 0));
        Check.refused("place 0 of none", x, x.read(2, 0), 4);
        x.write(3, 5, 9);
        Check.refused("refused anew", x, x.tray(3, 2, 61), 5);
        Check.fine("the old one stays", x, x.read(3, 5), 9);
    }

    private static void writeAndRead() {
        TinFen x = new TinFen();
        long v = 0x7fedcba987654381L;
        long[] due = {(byte) v, (short) v, (int) v, v};
        for (int sort = 0; sort < 4; sort++) {
            Check.fine("tray", x, x.tray(sort, sort, 3));
            Check.fine("write", x, x.write(sort, 2, v));
            Check.fine("cut to sort " + sort, x, x.read(sort, 2), due[sort]);
            Check.fine("write -1", x, x.write(sort, 0, -1));
            Check.fine("NONE by STATUS 0", x, x.read(sort, 0), -1);
            Check.fine("beside it", x, x.read(sort, 1), 0);
        }
        Check.fine("write 128", x, x.write(0, 0, 128));
        Check.fine("with sign", x, x.read(0, 0), -128);
        Check.refused("write to tray 4", x, x.write(4, 0, 1), 1);
        Check.refused("write to tray -1", x, x.write(-1, 0, 1), 1);
        Check.refused("write at -1", x, x.write(0, -1, 1), 4);
        Check.refused("write at 3", x, x.write(0, 3, 1), 4);
        Check.refused("read from tray 4", x, x.read(4, 9), 1);
        Check.refused("read at -1", x, x.read(1, -1), 4);
        Check.refused("read at 3", x, x.read(1, 3), 4);
        TinFen y = new TinFen();
        Check.refused("write to MISSING", y, y.write(1, -1, 1), 3);
    }

    private static void row(TinFen x, int tray, int many) {
        x.tray(tray, 2, many);
        for (int i = 0; i < many; i++) {
            x.write(tray, i, 10 * (tray + 1) + i);
        }
    }

    private static void holds(String what, TinFen x, int tray, long... due) {
        for (int i = 0; i < due.length; i++) {
            Check.fine(what + " at " + i, x, x.read(tray, i), due[i]);
        }
    }

    private static void pour() {
        TinFen x = new TinFen();
        row(x, 0, 5);
        row(x, 1, 4);
        Check.fine("pour", x, x.pour(0, 1, 1, 0, 3));
        holds("poured", x, 1, 11, 12, 13, 23);
        holds("poured from", x, 0, 10, 11, 12, 13, 14);
        Check.fine("up in itself", x, x.pour(0, 0, 0, 1, 4));
        holds("up", x, 0, 10, 10, 11, 12, 13);
        row(x, 0, 5);
        Check.fine("down in itself", x, x.pour(0, 1, 0, 0, 4));
        holds("down", x, 0, 11, 12, 13, 14, 14);
        Check.fine("nothing, at the end", x, x.pour(0, 5, 1, 4, 0));
        holds("nothing", x, 1, 11, 12, 13, 23);
    }

    private static void pourRefused() {
        TinFen x = new TinFen();
        row(x, 0, 5);
        row(x, 1, 4);
        x.tray(2, 1, 4);
        Check.refused("from 4", x, x.pour(4, 0, 3, 0, -1), 1);
        Check.refused("to -1", x, x.pour(3, 0, -1, 0, -1), 1);
        Check.refused("from MISSING", x, x.pour(3, 0, 1, 0, -1), 3);
        Check.refused("to MISSING", x, x.pour(1, 0, 3, 9, 1), 3);
        Check.refused("unlike", x, x.pour(0, 9, 2, 0, -1), 11);
        Check.refused("below 0", x, x.pour(0, 9, 1, 0, -1), 6);
        Check.refused("i -1", x, x.pour(0, -1, 1, 0, 1), 4);
        Check.refused("j -1", x, x.pour(0, 0, 1, -1, 0), 4);
        Check.refused("i too far", x, x.pour(0, 4, 1, 0, 2), 4);
        Check.refused("j too far", x, x.pour(0, 0, 1, 3, 2), 4);
        Check.refused("very many", x, x.pour(0, 1, 1, 0, Integer.MAX_VALUE), 4);
        Check.refused("very far", x, x.pour(0, 0, 1, Integer.MAX_VALUE, 1), 4);
        holds("as it was", x, 1, 20, 21, 22, 23);
    }
}
