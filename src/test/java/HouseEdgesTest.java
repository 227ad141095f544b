/** The edges of people, slips, mood, till and images: the last value that is taken and the first that is not. */
public final class HouseEdgesTest {
    private static final int BAD = WhoSingsNext.BAD, FULL = WhoSingsNext.FULL, NO_SUCH = -100000;
    private static final Due DUE = new Due();

    public static void main(String[] args) {
        nobodyAndNothing();
        eightPeople();
        patience();
        group();
        sevenSlips();
        longAndNumber();
        kinds();
        whose();
        setEachToItsBounds();
        ofDoesNotMatter();
        setTellsWhatItWas();
        refusedThenTaken();
        countOfBounds();
        imageOfNothing();
        imageOfAll();
        eachThingComesBack();
        whatAnImageDoesNotKeep();
        imagesAreApart();
        afterBackAllMayComeAgain();
        DUE.end("HouseEdgesTest");
    }

    private static void due(String call, long got, long want) {
        DUE.due(call, got, want);
    }

    private static void nobodyAndNothing() {
        WhoSingsNext x = new WhoSingsNext();
        due("1: nobody", x.count(0), 0);
        due("1: an empty box", x.count(1), 0);
        due("1: MOOD is 0 at first", x.count(2), 99);
        due("1: TILL is 60 at first", x.count(3), 60);
        due("1: TEXT 0 is there", x.count(4), 1);
        due("1: THE TAPE is empty", x.count(5), 0);
        due("1: TEXT 0 is THE RULE", x.count(6), 0);
        WhoSingsNext other = new WhoSingsNext();
        x.come(1, 1);
        x.slip(0, 10, 0);
        x.set(5, 0, 9);
        x.set(6, 0, 9);
        x.feed(9);
        x.sheet(0, 0, 1);
        x.image();
        int[] counts = {0, 0, 99, 60, 1, 0, 0};
        for (int what = 0; what < 7; what++) {
            due("1: another one stays new, count(" + what + ")", other.count(what), counts[what]);
        }
        due("1: and without sheets", other.judge(0), -11);
        due("1: and without an image", other.back(), WhoSingsNext.STATE);
        due("1: MOOD was 0", other.set(5, 0, 1), 0);
        due("1: TILL was 60", other.set(6, 0, 1), 60);
    }

    private static void eightPeople() {
        WhoSingsNext x = new WhoSingsNext();
        for (int p = 0; p < 8; p++) {
            due("2: how many ahead of " + p, x.count(0), p);
            due("2: who comes is " + p, x.come(90 + p, 7 - p), p);
        }
        due("2: the ninth", x.come(90, 0), FULL);
        due("2: eight", x.count(0), 8);
        for (int p = 0; p < 8; p++) {
            due("2: PATIENCE of " + p, x.told(p, 0), 90 + p);
            due("2: GROUP of " + p, x.told(p, 1), 7 - p);
        }
        due("2: all eight are there", x.evening(0, 5), 255);
    }

    private static void patience() {
        int[] fine = {0, 1, 98, 99};
        for (int v : fine) {
            WhoSingsNext x = new WhoSingsNext();
            due("2: PATIENCE " + v, x.come(v, 0), 0);
            due("2: is " + v, x.told(0, 0), v);
        }
    }

    private static void group() {
        WhoSingsNext x = new WhoSingsNext();
        for (int v = 0; v < 8; v++) {
            due("2: GROUP " + v, x.come(0, v), v);
            due("2: is " + v, x.told(v, 1), v);
        }
    }

    private static void sevenSlips() {
        WhoSingsNext x = new WhoSingsNext();
        x.come(1, 1);
        for (int s = 0; s < 7; s++) {
            due("3: how many ahead of " + s, x.count(1), s);
            due("3: who comes is " + s, x.slip(0, 10, 0), s);
        }
        due("3: the eighth", x.slip(0, 10, 0), FULL);
        due("3: seven", x.count(1), 7);
        due("3: one more of the people has room", x.come(1, 1), 1);
    }

    private static void longAndNumber() {
        int[][] fine = {{10, 1, 0}, {11, 1, 1}, {19, 1, 9}, {20, 2, 0}, {90, 9, 0}, {98, 9, 8}, {99, 9, 9}};
        for (int[] f : fine) {
            WhoSingsNext x = new WhoSingsNext();
            x.come(1, 1);
            due("3: what " + f[0], x.slip(2, f[0], 0), 0);
            due("3: LONG of " + f[0], x.told(0, 3), f[1]);
            due("3: NUMBER of " + f[0], x.told(0, 2), f[2]);
        }
    }

    private static void kinds() {
        WhoSingsNext x = new WhoSingsNext();
        x.come(1, 1);
        due("3: KIND -1", x.slip(-1, 10, 0), BAD);
        for (int kind = 0; kind < 6; kind++) {
            due("3: KIND " + kind, x.slip(kind, 10, 0), kind);
            due("5: is " + kind, x.told(kind, 5), kind);
        }
        due("3: KIND 6", x.slip(6, 10, 0), BAD);
    }

    private static void whose() {
        WhoSingsNext x = new WhoSingsNext();
        due("3: nobody's", x.slip(0, 10, 0), BAD);
        for (int p = 0; p < 7; p++) {
            due("3: not yet there", x.slip(0, 10, p), BAD);
            x.come(1, 1);
            due("3: there", x.slip(0, 10, p), p);
            due("5: WHOSE", x.told(p, 4), p);
        }
        x.come(1, 1);
        due("4: the last of all", x.set(4, 0, 7), 0);
        due("4: none such", x.set(4, 0, 8), NO_SUCH);
        due("5: WHOSE then", x.told(0, 4), 7);
    }

    private static void setEachToItsBounds() {
        int[][] bounds = {{0, 99}, {0, 7}, {0, 9}, {1, 9}, {0, 2}, {-99, 99}, {1, 99}};
        for (int what = 0; what < 7; what++) {
            WhoSingsNext x = three();
            int least = bounds[what][0];
            int most = bounds[what][1];
            x.set(what, 2, least + 1);
            due("4: set(" + what + "), the least", x.set(what, 2, least), least + 1);
            due("4: set(" + what + "), less", x.set(what, 2, least - 1), NO_SUCH);
            due("4: set(" + what + "), the most", x.set(what, 2, most), least);
            due("4: set(" + what + "), more", x.set(what, 2, most + 1), NO_SUCH);
            due("4: set(" + what + ") stays the most", x.set(what, 2, most), most);
            due("4: and is", what < 5 ? x.told(2, what) : what == 5 ? x.count(2) - 99 : x.count(3), most);
        }
    }

    private static WhoSingsNext three() {
        WhoSingsNext x = new WhoSingsNext();
        for (int i = 0; i < 3; i++) {
            x.come(10 + i, i);
        }
        for (int i = 0; i < 3; i++) {
            x.slip(i, 41 + i, i);
        }
        return x;
    }

    private static void ofDoesNotMatter() {
        WhoSingsNext x = new WhoSingsNext();
        int was = 0;
        int ended = 60;
        for (int of : new int[] {0, -1, 8, Integer.MIN_VALUE, Integer.MAX_VALUE}) {
            int v = was == 0 ? 3 : was + 1;
            due("4: MOOD, of " + of, x.set(5, of, v), was);
            due("4: TILL, of " + of, x.set(6, of, v), ended);
            was = v;
            ended = v;
        }
    }

    private static void setTellsWhatItWas() {
        WhoSingsNext x = three();
        int[] was = {11, 1, 2, 4, 1};
        int[] then = {77, 6, 8, 9, 2};
        for (int what = 0; what < 5; what++) {
            due("4: was " + what, x.set(what, 1, then[what]), was[what]);
            due("4: is " + what, x.told(1, what), then[what]);
        }
        for (int what = 0; what < 2; what++) {
            due("4: the one ahead stays, " + what, x.told(0, what), 10 * (1 - what));
            due("4: the one behind stays, " + what, x.told(2, what), 12 - 10 * what);
        }
        due("4: KIND stays", x.told(1, 5), 1);
        due("4: MOOD below 0 was", x.set(5, 0, -2) + x.set(5, 0, 0), -2);
    }

    private static void refusedThenTaken() {
        WhoSingsNext x = new WhoSingsNext();
        due("2: refused", x.come(100, 0), BAD);
        due("2: the next one is 0", x.come(99, 0), 0);
        due("3: refused", x.slip(0, 100, 0), BAD);
        due("3: the next one is 0", x.slip(0, 99, 0), 0);
        due("3: refused again", x.slip(6, 99, 0), BAD);
        due("3: the next one is 1", x.slip(5, 99, 0), 1);
    }

    private static void countOfBounds() {
        WhoSingsNext x = new WhoSingsNext();
        for (int mood : new int[] {-99, -1, 0, 1, 99}) {
            x.set(5, 0, mood);
            due("24: MOOD and 99, of " + mood, x.count(2), mood + 99);
        }
        for (int till : new int[] {1, 60, 99}) {
            x.set(6, 0, till);
            due("24: TILL", x.count(3), till);
        }
    }

    private static void imageOfNothing() {
        WhoSingsNext x = new WhoSingsNext();
        due("22: of an empty box", x.image(), 0);
        x.come(1, 1);
        x.slip(0, 10, 0);
        x.set(5, 0, -99);
        x.set(6, 0, 99);
        due("23: an empty box", x.back(), 0);
        int[] counts = {0, 0, 99, 60, 1, 0, 0};
        for (int what = 0; what < 7; what++) {
            due("23: count(" + what + ")", x.count(what), counts[what]);
        }
        due("23: nobody's slip", x.slip(0, 10, 0), BAD);
    }

    private static void imageOfAll() {
        WhoSingsNext x = Houses.full();
        due("22: of seven", x.image(), 7);
        x.set(0, 7, 0);
        x.set(2, 6, 9);
        due("23: seven", x.back(), 7);
        due("23: PATIENCE of the last", x.told(7, 0), 17);
        due("23: NUMBER of the last", x.told(6, 2), 6);
        due("23: is full again", x.come(0, 0), FULL);
        due("23: the box, too", x.slip(0, 10, 0), FULL);
    }

    private static void eachThingComesBack() {
        int[] then = {55, 6, 9, 9, 2, -8, 17};
        for (int what = 0; what < 7; what++) {
            WhoSingsNext x = three();
            due("22: three", x.image(), 3);
            int was = x.set(what, 1, then[what]);
            due("23: three", x.back(), 3);
            due("23: what " + what + " is as it was", x.set(what, 1, then[what]), was);
            due("23: three, again", x.back(), 3);
            due("23: what " + what + " again", x.set(what, 1, then[what]), was);
        }
        WhoSingsNext x = three();
        Due.read(x, "bears 0;takes 5;first 0;");
        x.force(1);
        x.image();
        x.force(0);
        x.back();
        due("23: THE RULE", x.count(6), 1);
        due("23: by it", x.evening(1, 0), 15);
        x.hold(2);
        due("23: MOOD by hold()", x.count(2), 98);
        x.back();
        due("23: is as it was", x.count(2), 99);
    }

    private static void whatAnImageDoesNotKeep() {
        WhoSingsNext x = three();
        x.feed('b');
        x.sheet(0, 0, 1);
        x.image();
        Houses.feed(x, "ears 0;takes 5;first 0;");
        due("7: a text since", x.text(), 1);
        x.feed('?');
        x.feed('?');
        x.cell(0, 0, 1);
        x.sheet(1, 2, 2);
        x.back();
        due("23: TEXTS stay", x.count(4), 2);
        due("23: and may be THE RULE", x.force(1), 0);
        due("23: THE TAPE stays", x.count(5), 2);
        due("23: what is on it, too", x.text(), -100);
        due("23: an item stays", x.judge(0), 0);
        due("23: a SHEET stays", x.judge(1), 1);
        x.sheet(0, -1, 0);
        x.back();
        due("23: a missing one stays missing", x.judge(0), -11);
        due("23: THE RULE, again", x.count(6), 0);
    }

    private static void imagesAreApart() {
        WhoSingsNext x = three();
        x.image();
        x.set(0, 0, 50);
        x.back();
        x.set(0, 0, 60);
        x.back();
        due("23: what is changed after back() isn't in THE IMAGE", x.told(0, 0), 10);
        x.set(0, 0, 70);
        x.image();
        x.set(0, 0, 80);
        x.back();
        due("22: the newer image is the one", x.told(0, 0), 70);
        WhoSingsNext y = three();
        due("23: of another house there is none", y.back(), WhoSingsNext.STATE);
    }

    private static void afterBackAllMayComeAgain() {
        WhoSingsNext x = three();
        x.image();
        for (int round = 0; round < 3; round++) {
            for (int p = 3; p < 8; p++) {
                due("23: one more", x.come(round, round), p);
            }
            due("23: no more", x.come(0, 0), FULL);
            for (int s = 3; s < 7; s++) {
                due("23: one more slip", x.slip(3 + round, 50 + round, 7), s);
                due("23: of that KIND", x.told(s, 5), 3 + round);
                due("23: of that LONG", x.told(s, 3), 5);
                due("23: of that NUMBER", x.told(s, 2), round);
            }
            due("23: no more slips", x.slip(0, 10, 0), FULL);
            due("23: PATIENCE of the newest", x.told(7, 0), round);
            due("23: back to three", x.back(), 3);
            due("23: three of the people", x.count(0), 3);
            due("23: WHOSE, of those who are gone", x.slip(0, 10, 3), BAD);
            due("23: the fourth is gone", x.told(3, 0), BAD);
            due("23: the fourth slip is gone", x.told(3, 2), BAD);
        }
    }
}
