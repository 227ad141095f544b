/** The edges of the host's calls: sheets of 0 and of 40, places at their ends, items that are cut, kinds under kinds. */
public final class HostEdgesTest {
    private static final int BAD = WhoSingsNext.BAD, NONE = WhoSingsNext.NONE;
    private static final int NOTHING = -11, OUTSIDE = -12, OTHER = -13;
    private static final int LEAST = Integer.MIN_VALUE, MOST = Integer.MAX_VALUE;
    private static final Due DUE = new Due();

    public static void main(String[] args) {
        fourSheets();
        sizes();
        sizeOfAMissingOne();
        anewAllIsZero();
        anotherSort();
        lastPlace();
        itemsOfBytes();
        itemsOfShorts();
        itemsOfInts();
        copyToTheEnds();
        copyOfNothing();
        copyOverItself();
        copyKeepsTheRest();
        copyOfEachSort();
        slipsOfEachSort();
        sevenSlipsOfASheet();
        slipsAtTheEnd();
        whatStoodAheadCame();
        othersAreLeftOut();
        itemsAsSlips();
        noSlipsAsked();
        kindsUnderKinds();
        DUE.end("HostEdgesTest");
    }

    private static void due(String call, long got, long want) {
        DUE.due(call, got, want);
    }

    /** The desk of it calls slips 0, 1, .. in this order, as many as there are. */
    private static WhoSingsNext house(int slips) {
        WhoSingsNext x = new WhoSingsNext();
        x.come(99, 0);
        for (int s = 0; s < slips; s++) {
            x.slip(0, 10, 0);
        }
        return x;
    }

    private static void fourSheets() {
        WhoSingsNext x = house(1);
        due("25: SHEET -1", x.sheet(-1, 0, 1), BAD);
        due("25: SHEET 4", x.sheet(4, 0, 1), BAD);
        for (int sheet = 0; sheet < 4; sheet++) {
            due("25: missing at first", x.judge(sheet), NOTHING);
            due("25: becomes a row", x.sheet(sheet, sheet % 3, 1), 1);
            due("25: of 0", x.judge(sheet), NONE);
            due("26: is another one than those ahead", x.cell(sheet, 0, 1), 1);
            due("26: is 1", x.judge(sheet), 0);
        }
        due("25: the first becomes missing", x.sheet(0, -1, 0), 1);
        due("25: it alone", x.judge(1) + x.judge(2) + x.judge(3), 0);
    }

    private static void sizes() {
        WhoSingsNext x = house(0);
        for (int sort = 0; sort < 3; sort++) {
            for (int n : new int[] {0, 1, 39, 40}) {
                due("25: " + n + " of sort " + sort, x.sheet(0, sort, n), 1);
                due("25: which has no place " + n, x.cell(0, n, 0), OUTSIDE);
                due("25: but the one ahead", x.cell(0, n - 1, 0), n == 0 ? OUTSIDE : 1);
            }
            due("25: 41 of sort " + sort, x.sheet(0, sort, 41), BAD);
            due("25: it is the one of 40 still", x.cell(0, 39, 0), 1);
            due("25: -1 of sort " + sort, x.sheet(0, sort, -1), -14);
            due("25: and still", x.cell(0, 39, 0), 1);
        }
    }

    private static void sizeOfAMissingOne() {
        for (int n : new int[] {0, 40, 41, -1, LEAST, MOST}) {
            WhoSingsNext x = house(0);
            x.sheet(2, 0, 5);
            due("25: missing, n " + n, x.sheet(2, -1, n), 1);
            due("25: is missing", x.cell(2, 0, 0), NOTHING);
            due("25: is missing again, n " + n, x.sheet(2, -1, n), 1);
        }
    }

    private static void anewAllIsZero() {
        WhoSingsNext x = house(1);
        for (int sort = 0; sort < 3; sort++) {
            x.sheet(0, sort, 40);
            for (int i = 0; i < 40; i++) {
                x.cell(0, i, 1);
            }
            due("25: anew", x.sheet(0, sort, 40), 1);
            x.sheet(1, sort, 1);
            for (int i = 0; i < 40; i++) {
                x.copy(0, i, 1, 0, 1);
                due("25: item " + i + " is 0", x.judge(1), NONE);
            }
        }
        x.cell(0, 0, 1);
        x.sheet(0, -1, 0);
        x.sheet(0, 2, 1);
        due("25: also if it was missing since", x.judge(0), NONE);
        x.cell(0, 0, 1);
        x.sheet(0, 2, 0);
        x.sheet(0, 2, 1);
        due("25: also if it was of 0 since", x.judge(0), NONE);
    }

    private static void anotherSort() {
        WhoSingsNext x = house(1);
        for (int sort = 0; sort < 3; sort++) {
            for (int then = 0; then < 3; then++) {
                x.sheet(0, sort, 3);
                x.cell(0, 1, 10);
                x.sheet(0, then, 3);
                for (int asked = 0; asked < 3; asked++) {
                    due("28: a SHEET of sort " + then + " taken for " + asked, x.slips(0, asked, 0, 1),
                        asked == then ? 0 : OTHER);
                }
            }
        }
    }

    private static void lastPlace() {
        WhoSingsNext x = house(7);
        x.sheet(0, 0, 7);
        for (int i = 0; i < 7; i++) {
            due("26: item " + i, x.cell(0, i, i), 1);
            due("26: the places behind it are 0", x.judge(0), i == 6 ? NONE : i + 1);
        }
        due("26: item 7", x.cell(0, 7, 7), OUTSIDE);
        due("26: item -1", x.cell(0, -1, 7), OUTSIDE);
        due("26: none of them is changed", x.judge(0), NONE);
    }

    /** Whether v, as an item of a sort, is the number of a slip that the desk calls first. */
    private static void itemIs(int sort, int v, int slip) {
        WhoSingsNext x = house(7);
        for (int s = 0; s < 7; s++) {
            x.set(3, s, s == slip ? 1 : 2);
        }
        x.set(6, 0, 1);
        x.sheet(0, sort, 1);
        due("26: cell(0, 0, " + v + ")", x.cell(0, 0, v), 1);
        due("26: of sort " + sort + " " + v + " is " + slip, x.judge(0), slip >= 0 ? NONE : 0);
    }

    private static void itemsOfBytes() {
        for (int high : new int[] {0, 256, 512, 65536, -256, -65536, LEAST, 0x7FFFFF00}) {
            itemIs(0, high, 0);
            itemIs(0, high + 1, 1);
            itemIs(0, high + 6, 6);
        }
        for (int v : new int[] {7, 127, 128, 255, -1, MOST}) {
            itemIs(0, v, -1);
        }
    }

    private static void itemsOfShorts() {
        for (int high : new int[] {0, 65536, 131072, -65536, LEAST, 0x7FFF0000}) {
            itemIs(1, high, 0);
            itemIs(1, high + 6, 6);
        }
        for (int v : new int[] {7, 128, 255, 256, 257, 32767, 32768, 65535, -1, -256, -255, MOST}) {
            itemIs(1, v, -1);
        }
    }

    private static void itemsOfInts() {
        for (int slip = 0; slip < 7; slip++) {
            itemIs(2, slip, slip);
        }
        for (int v : new int[] {7, 256, 257, 65536, 65537, -65536, -1, LEAST, MOST}) {
            itemIs(2, v, -1);
        }
    }

    private static WhoSingsNext counted() {
        WhoSingsNext x = house(7);
        x.sheet(0, 0, 7);
        x.sheet(1, 0, 7);
        for (int i = 0; i < 7; i++) {
            x.cell(0, i, i);
        }
        return x;
    }

    private static void copyToTheEnds() {
        WhoSingsNext x = counted();
        due("27: the last three", x.copy(0, 4, 1, 4, 3), 3);
        due("27: one more than there are", x.copy(0, 4, 1, 3, 4), OUTSIDE);
        due("27: one more than have room", x.copy(0, 3, 1, 4, 4), OUTSIDE);
        due("27: those ahead are 0", x.judge(1), 1);
        due("27: the first four", x.copy(0, 0, 1, 0, 4), 4);
        due("27: all came", x.judge(1), NONE);
        x.sheet(1, 0, 7);
        due("27: all at once", x.copy(0, 0, 1, 0, 7), 7);
        due("27: came", x.judge(1), NONE);
        x.sheet(2, 2, 40);
        due("27: forty", x.copy(2, 0, 2, 0, 40), 40);
        due("27: forty-one", x.copy(2, 0, 2, 0, 41), OUTSIDE);
        due("27: the fortieth", x.copy(2, 39, 2, 0, 1), 1);
        due("27: to the fortieth", x.copy(2, 0, 2, 39, 1), 1);
        due("27: from behind it", x.copy(2, 40, 2, 0, 1), OUTSIDE);
        due("27: to behind it", x.copy(2, 0, 2, 40, 1), OUTSIDE);
    }

    private static void copyOfNothing() {
        WhoSingsNext x = counted();
        for (int at = 0; at <= 7; at++) {
            due("27: none from " + at, x.copy(0, at, 1, 0, 0), 0);
            due("27: none to " + at, x.copy(0, 0, 1, at, 0), 0);
        }
        due("27: none from behind the end", x.copy(0, 8, 1, 0, 0), OUTSIDE);
        due("27: none to behind the end", x.copy(0, 0, 1, 8, 0), OUTSIDE);
        x.sheet(2, 0, 0);
        due("27: none of none", x.copy(2, 0, 2, 0, 0), 0);
        due("27: one of none", x.copy(2, 0, 1, 0, 1), OUTSIDE);
        due("27: one to none", x.copy(0, 0, 2, 0, 1), OUTSIDE);
        due("27: fewer than none", x.copy(2, 0, 2, 0, -1), OUTSIDE);
        due("27: nothing came", x.judge(1), 1);
    }

    private static void copyOverItself() {
        WhoSingsNext x = counted();
        due("27: forth", x.copy(0, 0, 0, 1, 6), 6);
        // 0 0 1 2 3 4 5, as they were.
        due("27: 0 0", x.judge(0), 1);
        due("27: and back", x.copy(0, 1, 0, 0, 6), 6);
        // 0 1 2 3 4 5 5.
        due("27: all but the last are where they were", x.judge(0), 6);
        x = counted();
        due("27: back", x.copy(0, 1, 0, 0, 6), 6);
        // 1 2 3 4 5 6 6.
        x.copy(0, 0, 0, 1, 6);
        x.cell(0, 0, 0);
        due("27: as they were, and forth", x.judge(0), NONE);
        due("27: onto itself", x.copy(0, 0, 0, 0, 7), 7);
        due("27: is as it was", x.judge(0), NONE);
    }

    private static void copyKeepsTheRest() {
        WhoSingsNext x = counted();
        x.copy(0, 0, 1, 0, 7);
        x.cell(0, 0, 6);
        x.cell(0, 6, 0);
        due("27: those in the middle alone", x.copy(0, 1, 1, 1, 5), 5);
        due("27: those around stay", x.judge(1), NONE);
        due("27: from which it came stays, too", x.judge(0), 0);
        x.copy(0, 6, 0, 0, 1);
        due("27: one", x.judge(0), 6);
    }

    private static void copyOfEachSort() {
        for (int sort = 0; sort < 3; sort++) {
            for (int other = 0; other < 3; other++) {
                WhoSingsNext x = house(2);
                x.sheet(0, sort, 2);
                x.cell(0, 1, 1);
                x.sheet(3, other, 2);
                due("27: sort " + sort + " to " + other, x.copy(0, 0, 3, 0, 2), sort == other ? 2 : OTHER);
                due("27: came", x.judge(3), sort == other ? NONE : 1);
            }
        }
        WhoSingsNext x = house(1);
        x.sheet(0, 2, 1);
        x.sheet(1, 2, 1);
        x.cell(0, 0, 65536);
        x.copy(0, 0, 1, 0, 1);
        due("27: an int is as it was", x.judge(1), 0);
        x.cell(0, 0, 0);
        x.copy(0, 0, 1, 0, 1);
        due("27: a 0, too", x.judge(1), NONE);
    }

    private static void slipsOfEachSort() {
        for (int sort = 0; sort < 3; sort++) {
            WhoSingsNext x = house(0);
            x.come(1, 1);
            x.sheet(0, sort, 6);
            Houses.cells(x, 0, 5, 99, 0, 0, 10, 1);
            due("28: two of sort " + sort, x.slips(0, sort, 0, 2), 2);
            int[] first = {9, 9, 0, 5};
            int[] second = {0, 1, 1, 0};
            for (int what = 2; what < 6; what++) {
                due("28: the first's " + what, x.told(0, what), first[what - 2]);
                due("28: the second's " + what, x.told(1, what), second[what - 2]);
            }
        }
    }

    private static void sevenSlipsOfASheet() {
        WhoSingsNext x = house(0);
        x.sheet(0, 0, 21);
        for (int k = 0; k < 7; k++) {
            x.cell(0, 3 * k, k % 6);
            x.cell(0, 3 * k + 1, 10 + k);
        }
        due("28: eight", x.slips(0, 0, 0, 8), BAD);
        due("28: seven", x.slips(0, 0, 0, 7), 7);
        for (int k = 0; k < 7; k++) {
            due("28: in their order", x.told(k, 2), k);
            due("28: of their KINDS", x.told(k, 5), k % 6);
        }
        due("28: no more have room", x.slips(0, 0, 0, 7), 0);
        due("28: not one", x.slips(0, 0, 18, 1), 0);
        due("28: seven stay", x.count(1), 7);
    }

    private static void slipsAtTheEnd() {
        WhoSingsNext x = house(0);
        x.sheet(0, 2, 40);
        for (int i = 1; i < 40; i += 3) {
            x.cell(0, i, 55);
        }
        due("28: the last three that stand there", x.slips(0, 2, 36, 1), 1);
        due("28: those behind them are no three", x.slips(0, 2, 39, 1), OUTSIDE);
        due("28: nor from the last but one", x.slips(0, 2, 38, 1), OUTSIDE);
        due("28: 0 0 and 55 is no slip", x.slips(0, 2, 35, 1), 0);
        due("28: but there are three", x.slips(0, 2, 37, 1), 0);
        due("28: seven to the end, of which six have room", x.slips(0, 2, 18, 7), 6);
    }

    private static void whatStoodAheadCame() {
        for (int ahead = 0; ahead <= 6; ahead++) {
            for (int more = 0; more < 3; more++) {
                WhoSingsNext x = house(0);
                x.sheet(0, 1, 3 * ahead + more);
                for (int k = 0; k < ahead; k++) {
                    x.cell(0, 3 * k + 1, 20 + k);
                }
                due("28: " + ahead + " and " + more + " items", x.slips(0, 1, 0, ahead + 1), OUTSIDE);
                due("28: what stood ahead came", x.count(1), ahead);
                for (int k = 0; k < ahead; k++) {
                    due("28: as it stood", x.told(k, 2), k);
                }
            }
        }
        WhoSingsNext x = house(0);
        x.sheet(0, 1, 9);
        Houses.cells(x, 0, 6, 10, 0, 1, 10, 0, 0, 100, 0);
        due("28: also where others are left out", x.slips(0, 1, 0, 4), OUTSIDE);
        due("28: one came", x.count(1), 1);
        due("28: of its KIND", x.told(0, 5), 1);
    }

    private static void othersAreLeftOut() {
        int[][] others = {{-1, 10, 0}, {6, 10, 0}, {0, 9, 0}, {0, 100, 0}, {0, -10, 0}, {0, 10, -1}, {0, 10, 1},
            {127, 127, 127}, {-128, -128, -128}};
        for (int[] o : others) {
            WhoSingsNext x = house(0);
            x.sheet(0, 0, 9);
            Houses.cells(x, 0, 3, 47, 0, o[0], o[1], o[2], 4, 12, 0);
            due("28: " + o[0] + " " + o[1] + " " + o[2] + " is left out", x.slips(0, 0, 0, 3), 2);
            due("28: two came", x.count(1), 2);
            due("28: the first", x.told(0, 5), 3);
            due("28: the third", x.told(1, 5), 4);
        }
        WhoSingsNext x = house(6);
        x.sheet(0, 0, 9);
        Houses.cells(x, 0, 6, 10, 0, 5, 10, 0, 4, 10, 0);
        due("28: the last that has room", x.slips(0, 0, 0, 3), 1);
        due("28: is the second", x.told(6, 5), 5);
    }

    private static void itemsAsSlips() {
        WhoSingsNext x = house(0);
        x.sheet(0, 0, 3);
        Houses.cells(x, 0, 256 + 3, 512 + 47, -256);
        due("28: bytes of 8 bits", x.slips(0, 0, 0, 1), 1);
        due("28: KIND", x.told(0, 5), 3);
        due("28: NUMBER", x.told(0, 2), 7);
        x.sheet(0, 1, 3);
        Houses.cells(x, 0, 65536 + 2, -65536 + 38, 131072);
        due("28: shorts of 16 bits", x.slips(0, 1, 0, 1), 1);
        due("28: LONG", x.told(1, 3), 3);
        Houses.cells(x, 0, 256 + 2, 38, 0);
        due("28: and no fewer", x.slips(0, 1, 0, 1), 0);
        x.sheet(0, 2, 3);
        Houses.cells(x, 0, 65536 + 2, 38, 0);
        due("28: ints of 32 bits", x.slips(0, 2, 0, 1), 0);
        x.cell(0, 0, 2);
        due("28: of these, too", x.slips(0, 2, 0, 1), 1);
    }

    private static void noSlipsAsked() {
        WhoSingsNext x = house(0);
        x.sheet(0, 2, 3);
        x.cell(0, 1, 10);
        due("28: none, from 0", x.slips(0, 2, 0, 0), 0);
        due("28: none, from the end", x.slips(0, 2, 3, 0), 0);
        due("28: none came", x.count(1), 0);
        x.sheet(0, 2, 0);
        due("28: none of a SHEET of 0", x.slips(0, 2, 0, 0), 0);
        due("28: one of a SHEET of 0", x.slips(0, 2, 0, 1), OUTSIDE);
        due("28: seven of a SHEET of 0", x.slips(0, 2, 0, 7), OUTSIDE);
    }

    private static void kindsUnderKinds() {
        WhoSingsNext x = house(0);
        for (int kind = 0; kind < 6; kind++) {
            x.slip(kind, 13 + kind, 0);
        }
        x.slip(5, 10, 0);
        int[][] of = {{0}, {0, 1}, {0, 2}, {0, 1, 3}, {0, 2, 4}, {0, 2, 5}};
        for (int kind = 0; kind < 6; kind++) {
            for (int k = 0; k < 6; k++) {
                boolean under = false;
                for (int o : of[kind]) {
                    under |= o == k;
                }
                due("29: KIND " + kind + " taken for " + k, x.taken(kind, k), under ? 3 + kind : OTHER);
            }
        }
        due("29: NUMBER 0 of the last", x.taken(6, 5), 0);
        due("29: others between", x.taken(6, 0), 0);
        x.set(2, 6, 9);
        due("29: NUMBER as it is now", x.taken(6, 2), 9);
    }
}
