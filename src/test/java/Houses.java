/** Houses that are made in the same way each time, and all that can be asked of one. */
final class Houses {
    /** One call, whatever it answers. */
    interface Call {
        long on(WhoSingsNext x);
    }

    /** One that makes a house. */
    interface Maker {
        WhoSingsNext make();
    }

    private Houses() {
    }

    /** Of all something: people, slips, a rule of its own, half a tape, an image that differs, three sheets. */
    static WhoSingsNext mixed() {
        WhoSingsNext x = new WhoSingsNext();
        x.come(20, 0);
        x.come(5, 1);
        x.come(30, 0);
        x.slip(0, 40, 0);
        x.slip(4, 35, 1);
        x.slip(1, 53, 2);
        Due.read(x, "bears 9;takes 3+mood;first sort-waited;");
        x.image();
        x.slip(2, 44, 0);
        x.force(1);
        x.set(5, 0, 7);
        x.set(6, 0, 44);
        x.set(0, 1, 3);
        feed(x, "bears 1;takes 2;first 3");
        x.sheet(0, 0, 9);
        cells(x, 0, 2, 35, 1, 3, 36, 0, 5, 17, 2);
        x.sheet(1, 1, 6);
        cells(x, 1, 0, 21, 0, 1, 32, 1);
        x.sheet(2, 2, 3);
        cells(x, 2, 4, 99, 2);
        return x;
    }

    /** No more of the people, slips, texts and bytes has room; the image is of the time ahead of the slips. */
    static WhoSingsNext full() {
        WhoSingsNext x = new WhoSingsNext();
        for (int p = 0; p < 8; p++) {
            x.come(10 + p, p % 3);
        }
        x.image();
        for (int s = 0; s < 7; s++) {
            x.slip(s % 6, 10 * (1 + s) + s, s);
        }
        for (int t = 1; t < 6; t++) {
            Due.read(x, "bears 9;takes 1;first " + t + ";");
        }
        x.force(3);
        feed(x, "bears 1;takes 2;first 3;" + " ".repeat(136));
        x.sheet(0, 1, 3);
        cells(x, 0, 5, 10, 7);
        x.sheet(3, 2, 6);
        cells(x, 3, 3, 46, 3, 0, 90, 1);
        return x;
    }

    static void feed(WhoSingsNext x, String bytes) {
        for (int i = 0; i < bytes.length(); i++) {
            x.feed(bytes.charAt(i));
        }
    }

    static void cells(WhoSingsNext x, int sheet, int... items) {
        for (int i = 0; i < items.length; i++) {
            x.cell(sheet, i, items[i]);
        }
    }

    /** Makes the image and the tape what they aren't any more: the house is used up by it. */
    static String allOf(WhoSingsNext x) {
        StringBuilder all = new StringBuilder();
        evenings(x, all);
        sheetsAsRows(x, all);
        tell(x, all.append("\nnow "));
        all.append("\ntape ").append(x.feed(';')).append(' ').append(x.text());
        all.append(' ').append(x.count(5)).append(' ').append(x.force(x.count(4) - 1));
        all.append(' ').append(x.desk(0)).append(' ').append(x.desk(6));
        all.append("\nback ").append(x.back());
        tell(x, all);
        sheetsAsSlips(x, all);
        return all.toString();
    }

    private static void tell(WhoSingsNext x, StringBuilder all) {
        for (int what = 0; what < 7; what++) {
            all.append(' ').append(x.count(what));
        }
        for (int p = 0; p < x.count(0); p++) {
            all.append(" p").append(x.told(p, 0)).append(' ').append(x.told(p, 1));
        }
        for (int s = 0; s < x.count(1); s++) {
            all.append(" s").append(slip(x, s));
        }
    }

    private static String slip(WhoSingsNext x, int s) {
        return x.told(s, 5) + "/" + x.told(s, 3) + x.told(s, 2) + "/" + x.told(s, 4);
    }

    private static void evenings(WhoSingsNext x, StringBuilder all) {
        for (int what = 0; what < 7; what++) {
            all.append(' ').append(x.desk(what));
        }
        for (int what = 0; what < 6; what++) {
            all.append(' ').append(x.evening(0, what)).append(' ').append(x.evening(21, what));
        }
        all.append(' ').append(x.best(0, 3)).append(' ').append(x.best(1, 3)).append(' ').append(x.drawn(7));
    }

    private static void sheetsAsRows(WhoSingsNext x, StringBuilder all) {
        for (int sheet = 0; sheet < 4; sheet++) {
            all.append(" j").append(x.judge(sheet)).append(" w").append(x.which(sheet));
        }
    }

    /** The image has room for a slip: so the items of a sheet can be read, three by three. */
    private static void sheetsAsSlips(WhoSingsNext x, StringBuilder all) {
        for (int sheet = 0; sheet < 4; sheet++) {
            for (int sort = 0; sort < 3; sort++) {
                int came = x.slips(sheet, sort, 0, 1);
                all.append(" c").append(came);
                for (int from = 3; came >= 0; from += 3) {
                    all.append(' ').append(slip(x, x.count(1) - 1));
                    x.back();
                    came = x.slips(sheet, sort, from, 1);
                }
            }
        }
    }
}
