/** The edges of what is asked of THE DESK and of drawn evenings: refuse, coin, harm, judge, which, behind, drawn, chance. */
public final class DeskEdgesTest {
    private static final int SONG = 0, SLOW = 1, ALONG = 2, DARING = 4, BOUGHT = 5;
    private static final int NONE = WhoSingsNext.NONE;
    private static final int LEAST = Integer.MIN_VALUE, MOST = Integer.MAX_VALUE;
    private static final Due DUE = new Due();

    public static void main(String[] args) {
        refuseOfNone();
        refuseIfMore();
        refuseOfLikeOnes();
        coinOfEach();
        coinOfOneThatIsNotSung();
        harmOfEach();
        judgeOfNothing();
        judgeOfLonger();
        judgeOfOddItems();
        whichOfSix();
        whichByEachAlone();
        behindOfNone();
        behindOfEach();
        behindIsNotByGroups();
        drawnOfNone();
        drawnOfOne();
        drawnOfSeven();
        drawnCallsWhatIsNotSung();
        chanceOfNone();
        chanceOfOneSeed();
        chanceInLowestTerms();
        seedsWrap();
        DUE.end("DeskEdgesTest");
    }

    private static void due(String call, long got, long want) {
        DUE.due(call, got, want);
    }

    private static WhoSingsNext houseBy(String text) {
        WhoSingsNext x = new WhoSingsNext();
        due(text, Due.read(x, text), 1);
        x.force(1);
        return x;
    }

    private static void refuseOfNone() {
        WhoSingsNext x = new WhoSingsNext();
        due("14: nobody", x.refuse(0), NONE);
        due("14: nobody, TAKEN", x.refuse(1), 0);
        x.come(9, 0);
        due("14: no SLIP", x.refuse(0), NONE);
        due("14: no SLIP, TAKEN", x.refuse(1), 0);
        x.slip(SLOW, 19, 0);
        due("14: by MOOD nothing is taken by it", x.refuse(1), 0);
        due("14: nor is more without it", x.refuse(0), NONE);
    }

    /** What is not there can't hinder: by the longer one, 9 minutes, nothing else is SUNG. */
    private static void refuseIfMore() {
        WhoSingsNext x = houseBy("bears 99;takes 1+sort;first minute=0 and sort;");
        x.come(9, 0);
        x.slip(ALONG, 90, 0);
        x.slip(SONG, 10, 0);
        x.slip(SONG, 10, 0);
        x.set(6, 0, 9);
        due("14: TAKEN with all", x.desk(0), 3);
        due("14: 2 without it, so none", x.refuse(0), NONE);
        due("14: as now", x.refuse(1), 3);
        x.slip(SONG, 10, 0);
        due("14: 3 without it, not more, so none", x.refuse(0), NONE);
        due("14: as now, too", x.refuse(1), 3);
        x.slip(SONG, 10, 0);
        due("14: 4 without it, so it", x.refuse(0), 0);
        due("14: TAKEN then", x.refuse(1), 4);
        due("14: none is gone by that", x.count(1), 5);
    }

    private static void refuseOfLikeOnes() {
        WhoSingsNext x = houseBy("bears 99;takes 9-minute;first 0;");
        x.come(9, 0);
        x.slip(SONG, 20, 0);
        x.slip(SONG, 50, 0);
        x.slip(SONG, 50, 0);
        x.slip(BOUGHT, 10, 0);
        x.set(6, 0, 20);
        // Of each: 9 - 2, 9 - 7, 0, 0.
        due("14: TAKEN", x.desk(0), 9);
        due("14: without the second or the third", x.refuse(1), 13);
        due("14: the second", x.refuse(0), 1);
        x.set(3, 1, 9);
        due("14: now the second is the one", x.refuse(0), 1);
        x.set(3, 1, 5);
        x.set(3, 2, 9);
        due("14: now the third is", x.refuse(0), 2);
        x.set(3, 3, 9);
        due("14: now none", x.refuse(0), NONE);
        due("14: as now", x.refuse(1), 9);
        x = houseBy("bears 99;takes 9-minute;first sort;");
        x.come(9, 0);
        x.slip(SONG, 10, 0);
        x.slip(SONG, 10, 0);
        x.slip(BOUGHT, 90, 0);
        due("14: the last", x.refuse(0), 2);
        due("14: without the last", x.refuse(1), 8 + 7);
    }

    private static void coinOfEach() {
        WhoSingsNext x = houseBy("bears 99;takes minute;first 0;");
        x.come(9, 0);
        x.slip(SONG, 10, 0);
        x.slip(SONG, 20, 0);
        x.slip(SONG, 40, 0);
        // THE DESK: 1 + 3 + 7; 2 + 3 + 7; 4 + 5 + 7.
        due("15: of the one that is first", x.coin(0), 0);
        due("15: of the second", x.coin(1), -1);
        due("15: of the third", x.coin(2), -5);
        x = houseBy("bears 99;takes 9-minute;first 0;");
        x.come(9, 0);
        x.slip(SONG, 10, 0);
        x.slip(SONG, 40, 0);
        // 8 + 4; 5 + 4.
        due("15: more by THE DESK", x.coin(1), 3);
        x.set(6, 0, 4);
        due("15: no room for both", x.coin(1), 8 - 5);
    }

    private static void coinOfOneThatIsNotSung() {
        WhoSingsNext x = houseBy("bears 99;takes 1;first sort;");
        x.come(9, 0);
        x.slip(SONG, 90, 0);
        x.slip(ALONG, 10, 0);
        x.set(6, 0, 8);
        due("15: it is called, and nothing is", x.coin(0), 0);
        x.set(6, 0, 9);
        due("15: now it is SUNG, and the other isn't", x.coin(0), 0);
        x.set(6, 0, 10);
        due("15: now both are", x.coin(0), 0);
    }

    private static void harmOfEach() {
        WhoSingsNext x = houseBy("bears 0;takes 1;first 0;");
        x.come(99, 0);
        x.come(4, 1);
        x.come(5, 2);
        x.slip(SONG, 50, 0);
        due("16: one leaves by it", x.harm(0), 1);
        x.set(3, 0, 6);
        due("16: two leave by it", x.harm(0), 2);
        x.set(3, 0, 4);
        due("16: none", x.harm(0), 0);
        x.slip(SONG, 10, 1);
        x.slip(SONG, 40, 0);
        // 4 (waited 4, 4), 5 (sang; 5), 9 (4; 9: leaves).
        due("16: LEFT", x.desk(1), 1);
        due("16: without the first nobody", x.harm(0), 1);
        due("16: without the second two", x.harm(1), -1);
        due("16: without the third none", x.harm(2), 1);
        due("16: they are all there still", x.desk(6), 123);
    }

    private static void judgeOfNothing() {
        WhoSingsNext x = new WhoSingsNext();
        for (int sort = 0; sort < 3; sort++) {
            x.sheet(0, sort, 0);
            due("17: a SHEET of 0", x.judge(0), NONE);
            x.sheet(0, sort, 1);
            due("17: THE DESK calls none", x.judge(0), 0);
        }
        x.come(9, 0);
        x.slip(SONG, 10, 0);
        due("17: it calls 0", x.judge(0), NONE);
        x.slip(SONG, 10, 0);
        due("17: what it calls then isn't told", x.judge(0), NONE);
        x.sheet(0, 0, 0);
        due("17: a SHEET of 0, again", x.judge(0), NONE);
    }

    private static void judgeOfLonger() {
        WhoSingsNext x = new WhoSingsNext();
        x.come(9, 0);
        x.sheet(0, 2, 40);
        for (int s = 0; s < 7; s++) {
            due("17: none any more at " + s, x.judge(0), s);
            x.slip(SONG, 10, 0);
            x.cell(0, s, s);
        }
        due("17: none any more at 7", x.judge(0), 7);
        x.cell(0, 7, 7);
        due("17: whatever stands there", x.judge(0), 7);
        x.cell(0, 7, NONE);
        due("17: NONE, too", x.judge(0), 7);
        x.sheet(1, 2, 7);
        x.copy(0, 0, 1, 0, 7);
        due("17: seven", x.judge(1), NONE);
        x.cell(1, 6, 5);
        due("17: the last is another one", x.judge(1), 6);
        x.cell(1, 0, 6);
        due("17: the first place", x.judge(1), 0);
    }

    private static void judgeOfOddItems() {
        WhoSingsNext x = new WhoSingsNext();
        x.come(9, 0);
        x.slip(SONG, 10, 0);
        x.sheet(0, 2, 1);
        for (int v : new int[] {-1, 1, 7, 8, 256, 65536, LEAST, MOST}) {
            x.cell(0, 0, v);
            due("17: item " + v, x.judge(0), 0);
            due("18: item " + v, x.which(0), 0);
        }
        x.sheet(0, 2, 2);
        due("17: 0 0, called once", x.judge(0), 1);
    }

    private static WhoSingsNext sixRules() {
        WhoSingsNext x = new WhoSingsNext();
        String[] firsts = {"sort", "-sort", "sort=1", "sort=2", "0"};
        for (String first : firsts) {
            Due.read(x, "bears 99;takes 0;first " + first + ";");
        }
        x.come(99, 0);
        for (int kind = 0; kind < 3; kind++) {
            x.slip(kind, 10, 0);
        }
        return x;
    }

    private static void whichOfSix() {
        WhoSingsNext x = sixRules();
        x.sheet(0, 0, 0);
        for (int rule = 0; rule < 6; rule++) {
            x.force(rule);
            due("18: a SHEET of 0: all six", x.which(0), 63);
            due("18: THE RULE stays", x.count(6), rule);
        }
        x.sheet(0, 0, 4);
        due("18: more than there are: none", x.which(0), 0);
        x.sheet(0, 0, 1);
        x.cell(0, 0, 3);
        due("18: no such SLIP: none", x.which(0), 0);
        WhoSingsNext y = new WhoSingsNext();
        y.sheet(0, 0, 0);
        due("18: of a new one", y.which(0), 1);
        y.sheet(0, 0, 1);
        due("18: of a new one, 0", y.which(0), 0);
    }

    private static void whichByEachAlone() {
        int[][] rows = {{0, 1, 2}, {2, 1, 0}, {1, 0, 2}, {2, 0, 1}, {1, 2, 0}, {0, 2, 1}};
        int[] bits = {1 + 4 + 32, 2, 8, 16, 0, 0};
        for (int r = 0; r < rows.length; r++) {
            WhoSingsNext x = sixRules();
            x.sheet(1, 1, 3);
            Houses.cells(x, 1, rows[r]);
            due("18: row " + r, x.which(1), bits[r]);
            for (int rule = 0; rule < 6; rule++) {
                x.force(rule);
                due("17: row " + r + " by " + rule, x.judge(1) == NONE ? 1 : 0, bits[r] >> rule & 1);
                due("18: whatever THE RULE is", x.which(1), bits[r]);
            }
        }
        WhoSingsNext x = sixRules();
        x.sheet(1, 1, 1);
        x.cell(1, 0, 2);
        due("18: by two that begin so", x.which(1), 2 + 16);
    }

    private static void behindOfNone() {
        WhoSingsNext x = new WhoSingsNext();
        due("19: nobody", x.behind(), 0);
        for (int p = 0; p < 8; p++) {
            x.come(9, p);
        }
        due("19: no SLIP", x.behind(), 0);
    }

    private static void behindOfEach() {
        for (int p = 0; p < 8; p++) {
            WhoSingsNext x = new WhoSingsNext();
            for (int q = 0; q < 8; q++) {
                x.come(99, q);
            }
            x.slip(SONG, 20, p);
            due("19: it sings", x.behind(), 0);
            x.set(6, 0, 1);
            due("19: it never sings", x.behind(), 1 << p);
            x.slip(SONG, 20, p);
            due("19: nor the other", x.behind(), 1 << p);
            x.slip(SONG, 10, p);
            due("19: any will do", x.behind(), 0);
            x.set(4, 2, (p + 1) % 8);
            due("19: but its own", x.behind(), 1 << p);
            x.set(3, 2, 2);
            due("19: two of them", x.behind(), 1 << p | 1 << (p + 1) % 8);
        }
    }

    private static void behindIsNotByGroups() {
        WhoSingsNext x = houseBy("bears 0;takes 0;first 0;");
        x.come(99, 0);
        x.come(99, 0);
        x.come(0, 1);
        x.slip(SONG, 10, 0);
        x.slip(SONG, 90, 1);
        x.slip(SONG, 10, 2);
        x.set(6, 0, 9);
        due("19: one of the same GROUP sang; one has left", x.behind(), 6);
        x.set(6, 0, 10);
        due("19: one has left", x.behind(), 4);
        x.set(0, 2, 99);
        due("19: it hasn't, but it is too late", x.behind(), 4);
        x.set(6, 0, 11);
        due("19: none", x.behind(), 0);
    }

    private static void drawnOfNone() {
        for (int seed : new int[] {0, 1, -1, LEAST, MOST}) {
            WhoSingsNext x = new WhoSingsNext();
            due("20: nobody", x.drawn(seed), 0);
            x.come(9, 0);
            due("20: no SLIP", x.drawn(seed), 0);
        }
    }

    private static void drawnOfOne() {
        for (int seed : new int[] {0, 1, -1, 511, 512, LEAST, MOST}) {
            WhoSingsNext x = new WhoSingsNext();
            x.come(9, 0);
            x.slip(SONG, 10, 0);
            due("20: one", x.drawn(seed), 3);
        }
    }

    /** z as a number of 32 bits that is never below 0. */
    private static int rowOf(int seed, int slips) {
        StringBuilder rest = new StringBuilder("1234567".substring(0, slips));
        long z = seed & 0xFFFFFFFFL;
        int row = 0;
        while (rest.length() > 0) {
            z = (z * 1103515245L + 12345L) & 0xFFFFFFFFL;
            int at = (int) ((z / 512) % rest.length());
            row = row * 10 + rest.charAt(at) - '0';
            rest.deleteCharAt(at);
        }
        return row;
    }

    private static WhoSingsNext sevenLongs() {
        WhoSingsNext x = houseBy("bears 99;takes minute*minute+sort;first 0;");
        x.come(99, 0);
        for (int s = 0; s < 7; s++) {
            x.slip(s % 6, 10 + 10 * (s % 3), 0);
        }
        return x;
    }

    private static void drawnOfSeven() {
        for (int slips = 2; slips <= 7; slips++) {
            WhoSingsNext x = houseBy("bears 99;takes minute*3+sort*7;first 0;");
            x.come(99, 0);
            for (int s = 0; s < slips; s++) {
                x.slip(s % 6, 10 + 10 * (s % 3), 0);
            }
            for (int seed : new int[] {0, 1, 2, 3, 4, 5, -1, -2, 1000000, 123456789, -987654321, LEAST, LEAST + 1, MOST,
                    MOST - 1, 1 << 23, 1 << 30}) {
                due("20: drawn(" + seed + ") of " + slips, x.drawn(seed), x.evening(rowOf(seed, slips), 0));
            }
        }
    }

    private static void drawnCallsWhatIsNotSung() {
        WhoSingsNext x = sevenLongs();
        x.set(6, 0, 4);
        for (int seed = -8; seed < 8; seed++) {
            due("20: till 4, drawn(" + seed + ")", x.drawn(seed), x.evening(rowOf(seed, 7), 0));
        }
        x.set(6, 0, 1);
        x.come(0, 1);
        x.set(4, 6, 1);
        for (int seed = -8; seed < 8; seed++) {
            due("20: till 1, drawn(" + seed + ")", x.drawn(seed), x.evening(rowOf(seed, 7), 0));
        }
    }

    private static void chanceOfNone() {
        WhoSingsNext x = new WhoSingsNext();
        for (int n = 1; n <= 20; n++) {
            due("21: nobody LEFT, n " + n, x.chance(-7, n, 0), 1);
            due("21: in lowest terms", x.chance(-7, n, 1), 1);
        }
        due("21: n 0", x.chance(-7, 0, 0), WhoSingsNext.NO);
        due("21: n 21", x.chance(-7, 21, 0), WhoSingsNext.NO);
    }

    /** By row 12 both leave in minute 6, by row 21 nobody does. */
    private static WhoSingsNext twoRows() {
        WhoSingsNext x = houseBy("bears 99 - (minute = 6) * 198;takes 1;first 0;");
        x.come(6, 0);
        x.come(3, 1);
        x.slip(SONG, 60, 0);
        x.slip(SONG, 30, 1);
        return x;
    }

    private static void chanceOfOneSeed() {
        WhoSingsNext x = twoRows();
        for (int seed : new int[] {0, 1, 2, 3, 4, 5, -1, LEAST, MOST}) {
            due("21: one seed, " + seed, x.chance(seed, 1, 0), rowOf(seed, 2) == 21 ? 1 : 0);
            due("21: one seed, below", x.chance(seed, 1, 1), 1);
        }
    }

    private static int noneLeft(int seed, int n) {
        int count = 0;
        for (int i = 0; i < n; i++) {
            count += rowOf(seed + i, 2) == 21 ? 1 : 0;
        }
        return count;
    }

    private static void chanceInLowestTerms() {
        for (int seed = -6; seed < 6; seed++) {
            WhoSingsNext x = twoRows();
            for (int n = 1; n <= 20; n++) {
                int above = noneLeft(seed, n);
                int common = java.math.BigInteger.valueOf(above).gcd(java.math.BigInteger.valueOf(n)).intValue();
                due("21: above the line, " + seed + ", " + n, x.chance(seed, n, 0), above / common);
                due("21: below the line, " + seed + ", " + n, x.chance(seed, n, 1), n / common);
            }
        }
        WhoSingsNext x = houseBy("bears -99;takes 1;first 0;");
        x.come(0, 0);
        x.slip(DARING, 10, 0);
        for (int n = 1; n <= 20; n++) {
            due("21: none, above", x.chance(3, n, 0), 0);
            due("21: none, below", x.chance(3, n, 1), 1);
        }
    }

    private static void seedsWrap() {
        WhoSingsNext x = twoRows();
        for (int seed : new int[] {MOST, MOST - 1, MOST - 10, MOST - 19, MOST - 18, LEAST, -10, -1}) {
            int above = noneLeft(seed, 20);
            due("21: SEED " + seed + " and 19 more", x.chance(seed, 20, 0) * 20, x.chance(seed, 20, 1) * above);
        }
    }
}
