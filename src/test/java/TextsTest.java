/** How a tape is read, where its faults are, what an E is worth. */
public final class TextsTest {
    private static final Due DUE = new Due();

    public static void main(String[] args) {
        tokens();
        faults();
        open();
        worth();
        fullestTape();
        DUE.end("TextsTest");
    }

    /** The text's number or its fault, on a new object. */
    private static void read(String text, int want) {
        DUE.due("text() of " + text, Due.read(new WhoSingsNext(), text), want);
    }

    private static void fine(String e) {
        read("bears " + e + ";takes 0;first 0;", 1);
    }

    /** A fault in an E that stands from place 6 on. */
    private static void fault(String e, int placeInE) {
        read("bears " + e + ";takes 0;first 0;", -106 - placeInE);
    }

    private static void tokens() {
        read("bears 1;takes 2;first 3;", 1);
        read("bears1;takes2;first3;", 1);
        read("\n bears\n1 ;\n\ntakes 2 ; first 3 ; \n", 1);
        fine("2or 3and 4");
        fine("1+2-3*4");
        fine("(1)");
        fine("0000");
        fine("9999");
        fine("minute+waited+sung+sort+bar+mood");
        fine("not 1<2");
        fine("1--1");
        fine("(not 1)+1");
        fault("00000", 0);
        fault("12345", 0);
        fault("1 + 12345", 4);
        fault("9999 9999", 5);
        fault("99999999999", 0);
        fault("notminute", 0);
        fault("minutes", 0);
        fault("minut", 0);
        fault("winute", 0);
        fault("1 xr 2", 2);
        fault("1 orz 2", 2);
        fault("1 zor 2", 2);
        fault("Minute", 0);
        fault("mOod", 0);
        fault("1 > 2", 2);
        fault("1\t", 1);
        fault("1\r", 1);
        fault("1 / 2", 2);
        fault("\u0000", 0);
        fault("\u00ff", 0);
        fault("1 {", 2);
        fault("`", 0);
        fault("1 @", 2);
        fault("1:", 1);
    }

    private static void faults() {
        read("", -100);
        read("  \n", -103);
        read("takes 1;", -100);
        read(" bear 1;", -101);
        read("bears", -105);
        read("bears ", -106);
        read("bears 1", -107);
        read("bears 1 ;", -109);
        read("bears 1;takes 2;first 3", -123);
        read("bears 1;takes 2;first 3  ", -125);
        read("bears 1;takes 2;first 3;;", -124);
        read("bears 1;takes 2;first 3; 4", -125);
        read("bears 1;takes 2;first 3; ?", -125);
        read("bears 1;first 2;takes 3;", -108);
        read("bears 1;;takes 2;first 3;", -108);
        fault(";", 0);
        fault(")", 0);
        fault("()", 1);
        fault("(1", 2);
        fault("(1;)", 2);
        fault("1)", 1);
        fault("(1))", 3);
        fault("1 2", 2);
        fault("1 mood", 2);
        fault("1 (2)", 2);
        fault("1 not 2", 2);
        fault("1 + not 2", 4);
        fault("1 * not 2", 4);
        fault("1 < not 2", 4);
        fault("- not 2", 2);
        fault("1 < 2 < 3", 6);
        fault("1 = 2 = 3", 6);
        fault("1 < 2 = 3", 6);
        fault("not 1 < 2 < 3", 10);
        fault("(1 < 2) < 3 < 4", 12);
        fine("(1 < 2) < 3");
        fine("1 < (2 < 3)");
        fine("1 < 2 and 2 < 3 or 3 = 4");
        fault("1 and", 5);
        fault("1 or or 2", 5);
        fault("and 1", 0);
        fault("+ 1", 0);
        fault("1 + + 1", 4);
        fault("1 * * 1", 4);
        fault("1 * - * 1", 6);
        fault("bears", 0);
        fault("mood takes", 5);
        fault("1 + first", 4);
        fault("? 12345", 0);
    }

    private static void open() {
        fine("(((((1)))))");
        fault("((((((1))))))", 5);
        fine("-----1");
        fault("------1", 5);
        fine("not not not not not 1");
        fault("not not not not not not 1", 20);
        fine("not (not -(1))");
        fault("not (not -(-1))", 11);
        fault("not (not -((1)))", 11);
        fault("not not not not not (1)", 20);
        fault("not not not not not 1 < -1", 24);
        fault("not not not not not 1 * (1)", 24);
        fine("not not not not not 1 or not not not not not 1");
        fine("not not not not not 1 and (((((1)))))");
        fine("-----1 + -----1");
        fine("-----1 * -----1 < -----1");
        fine("(((((1))))) + (((((2)))))");
        fine("((((-1 + -2))))");
        fine("((((not 1 and not 2))))");
        fault("((((not 1 < -2))))", 12);
        fine("----(1 - 1) - (((((1)))))");
        fine("-(not 1) + -----1");
        fault("not -(1) + -----1", 15);
    }

    /** What E is worth, told by the desk: the slip of kind 1 comes first, if it is as much. */
    private static void worth(String e, int want) {
        WhoSingsNext x = new WhoSingsNext();
        DUE.due(e, Due.read(x, "bears 99;takes 0;first ((" + e + ")=" + want + ")*sort;"), 1);
        x.force(1);
        x.come(99, 0);
        x.slip(0, 10, 0);
        x.slip(1, 10, 0);
        DUE.due(e + " = " + want, x.desk(6), 21);
    }

    private static void worth() {
        worth("1+2*3", 7);
        worth("(1+2)*3", 9);
        worth("9-3-2", 4);
        worth("9-3+2", 8);
        worth("-2*3", -6);
        worth("2*-3", -6);
        worth("- -3", 3);
        worth("-2-3", -5);
        worth("0007", 7);
        worth("1<2", 1);
        worth("2<2", 0);
        worth("-1<0", 1);
        worth("2=2", 1);
        worth("2=3", 0);
        worth("1+1=2*1", 1);
        worth("not 0", 1);
        worth("not 5", 0);
        worth("not not 5", 1);
        worth("not 1=2", 1);
        worth("not 0+1", 0);
        worth("5 and 6", 1);
        worth("5 and 0", 0);
        worth("0 and 5", 0);
        worth("0 or 5", 1);
        worth("5 or 0", 1);
        worth("0 or 0", 0);
        worth("1 or 0 and 0", 1);
        worth("(1 or 0) and 0", 0);
        worth("0 and 0 or 1", 1);
        worth("not 0 and 0", 0);
        worth("not 1 or 1", 1);
        worth("-5", -5);
        worth("0-9999", -9999);
        worth("9999*9999*22<0", 1);
        worth("9999*9999*9999<0", 1);
        worth("minute", 0);
        worth("mood", 0);
        worth("bar", 0);
    }

    /** As many as can wait for what they are joined with. */
    private static void fullestTape() {
        String five = "0or 1and 2<1+1*(".repeat(5);
        String text = "bears 0;takes " + five + "0or 1and 2<1+1*2" + ")))))" + ";first 0;";
        WhoSingsNext x = new WhoSingsNext();
        DUE.due(text, Due.read(x, text), 1);
        x.force(1);
        x.come(99, 0);
        x.slip(0, 10, 0);
        // 2 < 1 + 1 * 2 is 1; then 2 < 1 + 1 * 1 is 0; then 2 < 1 + 1 * 0 is 0, and so on.
        DUE.due("takes of " + text, x.evening(1, 0), 0);
        String ones = "1or 0and 0<0+1*(".repeat(5);
        DUE.due("a text", Due.read(x, "bears 0;takes " + ones + "0or 1and 2<1+1*2" + ")))))" + ";first 0;"), 2);
        x.force(2);
        DUE.due("takes", x.evening(1, 0), 1);
        StringBuilder sum = new StringBuilder("bears 0;takes 1");
        while (sum.length() < 160 - 9) {
            sum.append("+1");
        }
        sum.append(";first 0;");
        DUE.due("160 bytes", sum.length(), 160);
        DUE.due("a text of 160 bytes", Due.read(x, sum.toString()), 3);
        x.force(3);
        DUE.due("takes of 160 bytes", x.evening(1, 0), 69);
    }
}
