import java.io.IOException;

/** The edges of what a text may tell: promises 1 to 5. */
public final class TextEdgeTests {
    private static final int BAD = -1, NO = -2, FULL = -3, NONE = -4;
    private static final String TWO = "n2;p000;p000;";
    private static final String LEAST = TWO + "d0,0;";

    private static Sheet sheet;

    public static void main(String[] args) throws IOException {
        sheet = new Sheet("TextEdgeTests");
        theFirstStreet();
        twoHundredLetters();
        textOfTwoHundredLetters();
        lettersOfAscii();
        wipedText();
        howManyPersons();
        personsWithoutCount();
        nothingAheadOfCount();
        kindsOfPersons();
        figuresOfPersons();
        asManyPersons();
        doorsOfPersons();
        asManyDoors();
        partsOfWords();
        asManyWords();
        triesOfTheBarred();
        figuresOfNumbers();
        placeOfTheFirstFault();
        noFault();
        whatCanBeLaid();
        layClearsAll();
        sheet.end();
    }

    private static void faultDue(String text, int want) {
        sheet.due("fault of " + text, Sheet.written(text).fault(), want);
    }

    /** The item is wrong on its own and behind others, and its text can't be laid. */
    private static void wrongItem(String ahead, String item) {
        faultDue(ahead + item, ahead.length());
        faultDue(ahead + item + "b1;", ahead.length());
        sheet.due("lay of " + ahead + item, Sheet.written(ahead + item).lay(), NO);
    }

    private static void rightItem(String ahead, String item) {
        faultDue(ahead + item, NONE);
        faultDue(ahead + item + "x", ahead.length() + item.length());
    }

    private static void theFirstStreet() {
        sheet.sentence("at first n5;p003951;p149062;p258310;p370481;p026737;d0,3;d1,2;d2,2;d3,0;w20;w5;w9;b2;");
        LastCallersWord x = new LastCallersWord();
        sheet.due("letters at first", x.count(8), 0);
        sheet.due("fault of no text", x.fault(), NONE);
        sheet.due("lay of no text", x.lay(), NO);
        sheet.dueText("all that can be asked", Probe.of(LastCallersWord::new), Probe.of(TextEdgeTests::laidAsAtFirst));
    }

    private static LastCallersWord laidAsAtFirst() {
        LastCallersWord x = Sheet.laid("n5;p003951;p149062;p258310;p370481;p026737;d0,3;d1,2;d2,2;d3,0;w20;w5;w9;b2;");
        x.wipe();
        return x;
    }

    private static void twoHundredLetters() {
        sheet.sentence("A TEXT is letters (200 at most)");
        LastCallersWord x = new LastCallersWord();
        for (int length = 1; length <= 200; length++) {
            sheet.due("letter " + length, x.write('b'), length);
        }
        sheet.due("letter 201", x.write('b'), FULL);
        sheet.due("once more", x.write('b'), FULL);
        sheet.due("letters", x.count(8), 200);
        sheet.due("wipe", x.wipe(), 200);
        sheet.due("behind it", x.write('b'), 1);
    }

    private static void textOfTwoHundredLetters() {
        sheet.sentence("A letter (32 to 126, as in ASCII) comes behind THE TEXT: how long it is. BAD; FULL.");
        String full = LEAST + "b1;".repeat(58) + "b01;b07;";
        LastCallersWord x = Sheet.written(full.substring(0, 199));
        sheet.due("fault of 199 letters", x.fault(), 196);
        sheet.due("lay of 199 letters", x.lay(), NO);
        sheet.due("the last letter", x.write(';'), 200);
        sheet.due("a letter too many", x.write('x'), FULL);
        sheet.due("fault of 200 letters", x.fault(), NONE);
        sheet.due("lay of 200 letters", x.lay(), 1);
        sheet.due("the last item is read", x.count(4), 7);
        faultDue(LEAST + "b1;".repeat(59) + "b01;" + "b", 199);
        faultDue("b1;".repeat(66) + "b1", 198);
    }

    private static void lettersOfAscii() {
        sheet.sentence("A letter (32 to 126, as in ASCII) comes behind THE TEXT: how long it is. BAD; FULL.");
        LastCallersWord x = new LastCallersWord();
        int[] bad = {31, 127, 0, -1, 10, 128, 255, 'n' + 256, 'n' - 256, 'n' + 65536, 'n' - 65536,
            'n' | Integer.MIN_VALUE, Integer.MIN_VALUE, Integer.MAX_VALUE};
        for (int letter : bad) {
            sheet.due("write " + letter, x.write(letter), BAD);
        }
        sheet.due("nothing came", x.count(8), 0);
        for (int letter = 32; letter <= 126; letter++) {
            sheet.due("write " + letter, x.write(letter), letter - 31);
        }
    }

    private static void wipedText() {
        sheet.sentence("THE TEXT is empty: how long it was.");
        LastCallersWord x = Sheet.written("");
        sheet.due("of no letter", x.wipe(), 0);
        x.write('n');
        sheet.due("of one", x.wipe(), 1);
        Sheet.writeInto(x, "n2;");
        sheet.due("of three", x.wipe(), 3);
        sheet.due("again", x.wipe(), 0);
        Sheet.writeInto(x, "n2");
        sheet.due("the old ; is not read", x.fault(), 0);
        sheet.due("letters", x.count(8), 2);
    }

    private static void howManyPersons() {
        sheet.sentence("nN there are N (2 to 8) PERSONS, 0, 1, ..");
        for (int n : new int[] {0, 1, 9, 10, 18, 82, 99}) {
            wrongItem("", "n" + n + ";");
            wrongItem("n3;", "n" + n + ";");
        }
        for (int n = 2; n <= 8; n++) {
            rightItem("", "n" + n + ";");
            String text = "n" + n + ";" + ("p0" + "0".repeat(n) + ";").repeat(n) + "d0,0;";
            LastCallersWord x = Sheet.laid(text);
            sheet.due("persons of n" + n, x.count(0), n);
            sheet.due("the last of n" + n, x.person(n - 1, 0), 0);
            sheet.due("one more than n" + n, x.person(n, 0), BAD);
        }
    }

    private static void personsWithoutCount() {
        sheet.sentence("(4 without; no other ITEM ahead of it but n)");
        rightItem("", "p00000;p00000;p00000;p00000;");
        wrongItem("p00000;p00000;p00000;p00000;", "p00000;");
        wrongItem("", "p0000;");
        wrongItem("", "p000000;");
        rightItem("", "d3,3;");
        wrongItem("", "d4,3;");
        wrongItem("", "d3,4;");
        sheet.due("persons", Sheet.laid("p00000;p00000;p00000;p00000;d3,3;").count(0), 4);
        sheet.due("three of four", Sheet.written("p00000;p00000;p00000;d3,3;").lay(), NO);
        LastCallersWord x = Sheet.laid(LEAST);
        x.wipe();
        Sheet.writeInto(x, "d3,3;");
        sheet.due("4 whatever was laid before", x.fault(), NONE);
    }

    private static void nothingAheadOfCount() {
        sheet.sentence("(4 without; no other ITEM ahead of it but n)");
        for (String other : new String[] {"p00000;", "d0,0;", "w1;", "b1;"}) {
            wrongItem(other, "n4;");
            wrongItem("n4;" + other, "n4;");
            rightItem("n4;", other);
        }
        rightItem("n2;", "n8;");
        rightItem("n2;n8;", "n3;p0000;d2,2;");
        wrongItem("n8;n3;", "p000000000;");
        wrongItem("n8;n3;", "d3,0;");
        sheet.due("the last n", Sheet.laid("n8;n7;n2;p000;p000;d1,1;").count(0), 2);
    }

    private static void kindsOfPersons() {
        sheet.sentence("the next PERSON is of KIND K (0 PLAIN, 1 GOSSIP, 2 SILENT, 3 TRUE)");
        LastCallersWord x = Sheet.laid("p00000;p10000;p20000;p30000;d0,0;");
        for (int i = 0; i < 4; i++) {
            sheet.due("kind of " + i, x.person(i, 0), i);
        }
        for (char kind : "456789/:,;-x ".toCharArray()) {
            wrongItem("", "p" + kind + "0000;");
            wrongItem("p00000;", "p" + kind + "0000;");
        }
    }

    private static void figuresOfPersons() {
        sheet.sentence("(a figure 0 to 9 for each of all N, himself as well); N at most");
        for (int n : new int[] {2, 3, 8}) {
            String ahead = "n" + n + ";";
            rightItem(ahead, "p0" + "9".repeat(n) + ";");
            wrongItem(ahead, "p0" + "9".repeat(n - 1) + ";");
            wrongItem(ahead, "p0" + "9".repeat(n + 1) + ";");
            for (char sign : "/:,;-x ".toCharArray()) {
                wrongItem(ahead, "p0" + sign + "0".repeat(n - 1) + ";");
                wrongItem(ahead, "p0" + "0".repeat(n - 1) + sign + ";");
            }
        }
        wrongItem("n2;", "p;");
        wrongItem("n2;", "p0;");
        LastCallersWord x = Sheet.laid("n2;p009;p090;d0,0;");
        sheet.due("himself, 0", x.likes(0, 0), 0);
        sheet.due("another, 9", x.likes(0, 1), 9);
        sheet.due("another, 9", x.likes(1, 0), 9);
        sheet.due("himself, 0", x.likes(1, 1), 0);
    }

    private static void asManyPersons() {
        sheet.sentence("(a figure 0 to 9 for each of all N, himself as well); N at most");
        for (int n : new int[] {2, 5, 8}) {
            String one = "p0" + "0".repeat(n) + ";";
            String all = "n" + n + ";" + one.repeat(n);
            rightItem("", all);
            wrongItem(all, one);
            wrongItem(all + "d0,0;", one);
        }
    }

    private static void doorsOfPersons() {
        sheet.sentence("a DOOR of HOST H, whose latest CALLER is C (PERSONS 0 to N less 1); 5 at most, 0, 1, ..");
        for (int n : new int[] {2, 5, 8}) {
            String ahead = "n" + n + ";";
            int last = n - 1;
            rightItem(ahead, "d0,0;");
            rightItem(ahead, "d" + last + "," + last + ";");
            wrongItem(ahead, "d" + n + ",0;");
            wrongItem(ahead, "d0," + n + ";");
            wrongItem(ahead, "d10,0;");
            wrongItem(ahead, "d0,10;");
            wrongItem(ahead, "d99,0;");
            wrongItem(ahead, "d0,99;");
        }
        for (String item : new String[] {"d;", "d0;", "d,;", "d0,;", "d,0;", "d0,0,;", "d0,0,0;", "d0;0;", "d00;", "d-0,0;"}) {
            wrongItem("n2;", item);
        }
        LastCallersWord x = Sheet.laid(TWO + "d0,1;d1,0;");
        sheet.due("host of 0", x.door(0, 0), 0);
        sheet.due("caller of 0", x.door(0, 1), 1);
        sheet.due("host of 1", x.door(1, 0), 1);
        sheet.due("caller of 1", x.door(1, 1), 0);
    }

    private static void asManyDoors() {
        sheet.sentence("a DOOR of HOST H, whose latest CALLER is C (PERSONS 0 to N less 1); 5 at most, 0, 1, ..");
        rightItem(TWO, "d0,0;".repeat(5));
        wrongItem(TWO + "d0,0;".repeat(5), "d0,0;");
        wrongItem(TWO + "d0,0;".repeat(5) + "w1;", "d0,0;");
        LastCallersWord five = Sheet.laid(TWO + "d0,0;".repeat(4) + "d1,1;");
        sheet.due("doors", five.count(1), 5);
        sheet.due("host of the last", five.door(4, 0), 1);
        sheet.due("a sixth", five.door(5, 0), BAD);
        LastCallersWord one = Sheet.laid(TWO + "d1,1;");
        sheet.due("doors", one.count(1), 1);
        sheet.due("host", one.door(0, 0), 1);
        sheet.due("a second", one.door(1, 0), BAD);
    }

    private static void partsOfWords() {
        sheet.sentence("a WORD that is by P (1 to 60) parts likely; 6 at most, 0, 1, ..");
        for (int parts : new int[] {0, 61, 62, 99}) {
            wrongItem("", "w" + parts + ";");
            wrongItem("w1;", "w" + parts + ";");
        }
        for (int parts : new int[] {1, 2, 9, 10, 59, 60}) {
            rightItem("", "w" + parts + ";");
        }
        LastCallersWord x = Sheet.laid(LEAST + "w60;w1;b1;");
        sheet.due("60 of 61", x.inTime(0), 60);
        sheet.due("below", x.inTime(1), 61);
    }

    private static void asManyWords() {
        sheet.sentence("a WORD that is by P (1 to 60) parts likely; 6 at most, 0, 1, ..");
        rightItem("", "w1;".repeat(6));
        wrongItem("w1;".repeat(6), "w1;");
        wrongItem("w1;".repeat(6) + "b1;", "w60;");
        sheet.due("six", Sheet.laid(LEAST + "w1;".repeat(6)).count(2), 6);
        sheet.due("one", Sheet.laid(LEAST + "w1;").count(2), 1);
        sheet.due("none", Sheet.laid(LEAST).count(2), 0);
    }

    private static void triesOfTheBarred() {
        sheet.sentence("who tries B (1 to 9) times wrongly at a DOOR is BARRED there (3 without; the last one)");
        for (int limit : new int[] {0, 10, 11, 99}) {
            wrongItem("", "b" + limit + ";");
            wrongItem("b3;", "b" + limit + ";");
        }
        for (int limit = 1; limit <= 9; limit++) {
            rightItem("", "b" + limit + ";");
            sheet.due("B of b" + limit, Sheet.laid(LEAST + "b" + limit + ";").count(4), limit);
        }
        sheet.due("without", Sheet.laid(LEAST).count(4), 3);
        sheet.due("the last one", Sheet.laid("n2;b9;p000;b1;p000;b5;d0,0;b8;").count(4), 8);
        LastCallersWord x = Sheet.laid(LEAST + "b9;");
        x.wipe();
        Sheet.writeInto(x, LEAST);
        x.lay();
        sheet.due("3 whatever was laid before", x.count(4), 3);
    }

    private static void figuresOfNumbers() {
        sheet.sentence("Numbers have one or two figures.");
        String[] forms = {"n#;", "w#;", "b#;", "d#,0;", "d0,#;"};
        for (String form : forms) {
            rightItem("", form.replace("#", "3"));
            rightItem("", form.replace("#", "03"));
            for (String number : new String[] {"", "003", "030", "3x", "x3", " 3", "3 ", "+3", "-3", "3.", "/", ":", "0x3"}) {
                wrongItem("", form.replace("#", number));
            }
        }
        sheet.due("two figures of N", Sheet.laid("n02;p000;p000;d01,00;").count(0), 2);
        sheet.due("two figures of H", Sheet.laid("n02;p000;p000;d01,00;").door(0, 0), 1);
        sheet.due("two figures of C", Sheet.laid("n02;p000;p000;d00,01;").door(0, 1), 1);
        sheet.due("two figures of B", Sheet.laid(LEAST + "b09;").count(4), 9);
        sheet.due("two figures of P", Sheet.laid(LEAST + "w01;w02;b1;").inTime(0), 2);
    }

    private static void placeOfTheFirstFault() {
        sheet.sentence("FAULT: the place of the first letter of the first ITEM that is not so.");
        faultDue("x1;b0;", 0);
        faultDue("b1;b0;w0;", 3);
        faultDue("b1;w1;d0,9;n1;", 6);
        for (String item : new String[] {";", " ", "x;", "N2;", "P00000;", "D0,0;", "W1;", "B1;", "2;", ",;", "nn2;", "n2n2;", "b1,;"}) {
            wrongItem("", item);
            wrongItem("n4;", item);
        }
        for (String open : new String[] {"b", "b1", "w60", "d", "d0", "d0,", "d0,0", "p", "p0", "p0000", "p00000", "n4"}) {
            faultDue(open, 0);
            faultDue("n4;" + open, 3);
            faultDue("n4;" + open + " ;", 3);
        }
    }

    private static void noFault() {
        sheet.sentence("FAULT. NONE.");
        faultDue("", NONE);
        faultDue("b1;", NONE);
        faultDue("n2;p000;d0,0;", NONE);
        faultDue(LEAST, NONE);
    }

    private static void whatCanBeLaid() {
        sheet.sentence("LAID is a TEXT without FAULT, of all N PERSONS, and of a DOOR at least (NO else");
        sheet.due("a door at least", Sheet.written(LEAST).lay(), 1);
        sheet.due("no door", Sheet.written(TWO).lay(), NO);
        sheet.due("no person", Sheet.written("n2;d0,0;").lay(), NO);
        sheet.due("one of two", Sheet.written("n2;p000;d0,0;").lay(), NO);
        String seven = "n8;" + "p000000000;".repeat(7) + "d0,0;";
        sheet.due("seven of eight", Sheet.written(seven).lay(), NO);
        sheet.due("eight of eight", Sheet.written(seven + "p000000000;").lay(), 1);
        sheet.due("nine of eight", Sheet.written(seven + "p000000000;".repeat(2)).lay(), NO);
        sheet.due("a fault behind", Sheet.written(LEAST + "x").lay(), NO);
        sheet.due("the fifth door", Sheet.written(LEAST + "d0,0;".repeat(4)).lay(), 5);
        sheet.due("a sixth", Sheet.written(LEAST + "d0,0;".repeat(5)).lay(), NO);
        sheet.due("the doors ahead of the persons", Sheet.written("n2;d1,1;p000;p000;").lay(), 1);
        LastCallersWord x = Sheet.laid(LEAST);
        x.wipe();
        Sheet.writeInto(x, "n2;p000;d0,0;");
        sheet.due("persons of the last text do not count", x.lay(), NO);
        x.wipe();
        Sheet.writeInto(x, TWO);
        sheet.due("doors of the last text do not count", x.lay(), NO);
    }

    private static void layClearsAll() {
        sheet.sentence("LAID: how many DOORS; nothing tried, SEEN, UNDONE, KEPT. NO.");
        String text = "n3;p1099;p0909;p2000;d0,2;d1,2;w5;w7;b2;";
        sheet.dueText("all that can be asked", Probe.of(() -> laidAgain(text)), Probe.of(() -> Sheet.laid(text)));
        LastCallersWord x = laidAgain(text);
        sheet.due("lay once more", x.lay(), 2);
        sheet.due("the first day", x.day(), 1);
    }

    private static LastCallersWord laidAgain(String text) {
        LastCallersWord x = Sheet.laid(text);
        x.tries(1, 0);
        x.alter(2, 0, 9);
        x.keep();
        x.call(1, 1);
        x.day();
        x.keep();
        x.tries(0, 0);
        x.tries(2, 1);
        x.tries(2, 1);
        for (int many = 1; many <= 8; many++) {
            x.seen(0, 0, 1);
        }
        x.lay();
        return x;
    }
}
