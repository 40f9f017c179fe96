/** For each promise of the document, calls whose answers were worked out by hand. */
public final class PromiseTests {
    private static final int BAD = -1, NO = -2, FULL = -3, NONE = -4;
    private static final int[] OUTSIDE = {Integer.MIN_VALUE, -1, Integer.MAX_VALUE};

    private static int checks = 0;
    private static int wrong = 0;
    private static int promise = 0;

    public static void main(String[] args) {
        constants();
        aNewObject();
        write();
        wipe();
        faultOfNumbers();
        faultOfPersons();
        faultOfOrderAndEnd();
        lay();
        layBeginsAnew();
        layRefused();
        person();
        personListeners();
        likes();
        door();
        call();
        tries();
        day();
        dayAtTheSameTime();
        dayForgivesAll();
        alter();
        undo();
        undoOfTheLastEight();
        shutOut();
        knowsBy();
        when();
        lets();
        keeps();
        allIn();
        friend();
        seen();
        forget();
        called();
        guess();
        mean();
        inTime();
        likely();
        street();
        streetDays();
        keep();
        back();
        count();
        theLargestStreet();
        System.out.println("PromiseTests: " + (checks - wrong) + " answers as due, " + wrong + " not");
        if (wrong != 0) {
            System.exit(1);
        }
    }

    private static void due(String what, int got, int want) {
        checks++;
        if (got != want) {
            wrong++;
            System.out.println("promise " + promise + ": " + what + " answered " + got + ", due is " + want);
        }
    }

    private static LastCallersWord written(String text) {
        LastCallersWord x = new LastCallersWord();
        for (char letter : text.toCharArray()) {
            x.write(letter);
        }
        return x;
    }

    private static LastCallersWord laid(String text) {
        LastCallersWord x = written(text);
        int doors = x.lay();
        if (doors < 1) {
            due("lay of " + text, doors, 1);
        }
        return x;
    }

    private static void faultDue(String text, int want) {
        due("fault of " + text, written(text).fault(), want);
    }

    private static void constants() {
        due("BAD", LastCallersWord.BAD, -1);
        due("NO", LastCallersWord.NO, -2);
        due("FULL", LastCallersWord.FULL, -3);
        due("NONE", LastCallersWord.NONE, -4);
    }

    private static void aNewObject() {
        promise = 1;
        LastCallersWord x = new LastCallersWord();
        int[] counts = {5, 4, 3, 0, 2, 0, 0, 0, 0};
        for (int what = 0; what < counts.length; what++) {
            due("count " + what, x.count(what), counts[what]);
        }
        String[] people = {"003951", "149062", "258310", "370481", "026737"};
        for (int i = 0; i < 5; i++) {
            due("kind of " + i, x.person(i, 0), people[i].charAt(0) - '0');
            for (int j = 0; j < 5; j++) {
                due("likes " + i + " " + j, x.likes(i, j), people[i].charAt(j + 1) - '0');
            }
        }
        int[][] doors = {{0, 3, 8, 0}, {1, 2, 4, 0}, {2, 2, 4, 0}, {3, 0, 13, 0}};
        for (int d = 0; d < 4; d++) {
            for (int what = 0; what < 4; what++) {
                due("door " + d + " " + what, x.door(d, what), doors[d][what]);
            }
        }
        int[] order = {0, 2, 1, NONE};
        for (int k = 0; k < 4; k++) {
            due("guess " + k, x.guess(k), order[k]);
        }
        due("fault of the empty text", x.fault(), NONE);
        due("lay of the empty text", x.lay(), NO);
        due("undo", x.undo(), NO);
        due("back", x.back(), NO);
    }

    private static void write() {
        promise = 2;
        LastCallersWord x = new LastCallersWord();
        due("write 31", x.write(31), BAD);
        due("write 127", x.write(127), BAD);
        due("write 32", x.write(32), 1);
        due("write 126", x.write(126), 2);
        for (int bad : OUTSIDE) {
            due("write " + bad, x.write(bad), BAD);
        }
        due("write 256 + 'n'", x.write(256 + 'n'), BAD);
        for (int length = 3; length <= 200; length++) {
            due("letter " + length, x.write('d'), length);
        }
        due("letter 201", x.write('d'), FULL);
        due("a bad letter 201", x.write(31), BAD);
        due("count 8", x.count(8), 200);
        due("wipe", x.wipe(), 200);
        due("write behind wipe", x.write('d'), 1);
        LastCallersWord y = written("n2;p000;p000;d0,0");
        due("lay without the last ;", y.lay(), NO);
        y.write(';');
        due("lay with it", y.lay(), 1);
    }

    private static void wipe() {
        promise = 3;
        LastCallersWord x = written("n9;");
        due("wipe", x.wipe(), 3);
        due("wipe again", x.wipe(), 0);
        due("count 8", x.count(8), 0);
        due("fault", x.fault(), NONE);
        due("count 0", x.count(0), 5);
        x = laid("n2;p000;p000;d0,0;");
        x.keep();
        x.seen(0, 0, 1);
        x.day();
        due("wipe of what is laid", x.wipe(), 18);
        due("persons", x.count(0), 2);
        due("days", x.count(3), 1);
        due("seen", x.count(5), 1);
        due("undo", x.count(6), 1);
        due("kept", x.count(7), 1);
    }

    private static void faultOfNumbers() {
        promise = 4;
        String[] good = {"n2;", "n8;", "n02;", "n08;", "n2;n8;n3;", "d0,0;", "d3,3;", "d03,00;", "w1;", "w60;",
            "w01;", "b1;", "b9;", "b09;", "b3;b4;", "w1;w1;w1;w1;w1;w1;", "d0,0;d0,0;d0,0;d0,0;d0,0;"};
        for (String text : good) {
            faultDue(text, NONE);
        }
        String[] bad = {"n1;", "n9;", "n0;", "n10;", "n002;", "n;", "n-2;", "n2,;", "d4,0;", "d0,4;", "d0;", "d0,;",
            "d,0;", "d000,0;", "d0,000;", "d0.0;", "d0,0,;", "d 0,0;", "w0;", "w00;", "w61;", "w99;", "w060;", "w;",
            "b0;", "b00;", "b10;", "b;", "b009;", "x1;", "N2;", ";", " ", "2;", "b1 ;"};
        for (String text : bad) {
            faultDue(text, 0);
            faultDue("n4;" + text, 3);
            due("lay of " + text, written(text).lay(), NO);
        }
        faultDue("w1;w1;w1;w1;w1;w1;w1;", 18);
        faultDue("d0,0;d0,0;d0,0;d0,0;d0,0;d0,0;", 25);
        faultDue("n8;d7,7;", NONE);
        faultDue("n2;d1,1;d2,1;", 8);
    }

    private static void faultOfPersons() {
        promise = 4;
        faultDue("p00000;p19999;p20123;p34567;", NONE);
        faultDue("p00000;p00000;p00000;p00000;p00000;", 28);
        faultDue("p40000;", 0);
        faultDue("p0000;", 0);
        faultDue("p000000;", 0);
        faultDue("p0000x;", 0);
        faultDue("px0000;", 0);
        faultDue("p;", 0);
        faultDue("n3;p0000;", NONE);
        faultDue("n3;p00000;", 3);
        faultDue("n8;p087654321;", NONE);
    }

    private static void faultOfOrderAndEnd() {
        promise = 4;
        faultDue("n4;n5;", NONE);
        faultDue("b1;n4;", 3);
        faultDue("n4;w1;n4;", 6);
        faultDue("d0,0;n4;", 5);
        faultDue("p00000;n4;", 7);
        faultDue("w1;d1,1;p00000;b2;", NONE);
        faultDue("n4", 0);
        faultDue("n4;b1", 3);
        faultDue("n4;b", 3);
        faultDue("n4;;", 3);
        faultDue("n9;n1;", 0);
        LastCallersWord x = written("n9;");
        due("fault", x.fault(), 0);
        due("fault again", x.fault(), 0);
        due("what is laid stays", x.count(0), 5);
        due("the text stays", x.count(8), 3);
    }

    private static void lay() {
        promise = 5;
        LastCallersWord x = written("d0,3;d3,3;w7;p01234;p10000;p22222;p39999;b9;b1;");
        due("lay", x.lay(), 2);
        int[] counts = {4, 2, 1, 0, 1, 0, 0, 0, 47};
        for (int what = 0; what < counts.length; what++) {
            due("count " + what, x.count(what), counts[what]);
        }
        due("knowers of door 0", x.door(0, 2), 15);
        due("likes", x.likes(0, 3), 4);
        LastCallersWord usual = laid("p01234;p10000;p22222;p39999;d0,3;");
        due("B without b", usual.count(4), 3);
        due("words without w", usual.count(2), 0);
        due("the last n", laid("n8;n2;p000;p000;d1,0;").count(0), 2);
        due("five doors", written("n2;p000;p000;d1,0;d1,0;d1,0;d1,0;d1,0;").lay(), 5);
        due("lay twice", usual.lay(), 1);
    }

    private static void layBeginsAnew() {
        promise = 5;
        LastCallersWord x = laid("n2;p100;p100;d0,1;b1;");
        x.alter(1, 0, 9);
        x.call(0, 0);
        x.keep();
        x.day();
        x.tries(1, 0);
        x.seen(0, 0, 1);
        due("barred", x.door(0, 3), 2);
        due("lay", x.lay(), 1);
        int[] counts = {2, 1, 0, 0, 1, 0, 0, 0, 21};
        for (int what = 0; what < counts.length; what++) {
            due("count " + what, x.count(what), counts[what]);
        }
        due("liking", x.likes(1, 0), 0);
        due("caller", x.door(0, 1), 1);
        due("knowers", x.door(0, 2), 2);
        due("barred then", x.door(0, 3), 0);
        due("undo", x.undo(), NO);
        due("back", x.back(), NO);
        due("called", x.called(0), 3);
        due("first day", x.day(), 1);
    }

    private static void layRefused() {
        promise = 5;
        String[] unfit = {"", "n2;p000;d0,0;", "n2;p000;p000;", "n2;p000;p000;w1;b1;", "p00000;p00000;p00000;d0,0;",
            "n2;p000;p000;d0,0;x"};
        for (String text : unfit) {
            LastCallersWord x = written(text);
            x.day();
            x.keep();
            x.seen(0, 0, 1);
            due("lay of " + text, x.lay(), NO);
            int[] counts = {5, 4, 3, 1, 2, 1, 1, 1, text.length()};
            for (int what = 0; what < counts.length; what++) {
                due("count " + what + " behind " + text, x.count(what), counts[what]);
            }
            due("liking", x.likes(0, 2), 9);
        }
    }

    private static void person() {
        promise = 6;
        LastCallersWord x = new LastCallersWord();
        int[] kinds = {0, 1, 2, 3, 0};
        int[] reaches = {2, 3, 0, 0, 2};
        for (int i = 0; i < 5; i++) {
            due("kind of " + i, x.person(i, 0), kinds[i]);
            due("reach of " + i, x.person(i, 1), reaches[i]);
        }
        x.alter(3, 0, 8);
        due("reach of one TRUE to 8", x.person(3, 1), 1);
        x.alter(3, 1, 9);
        due("and to 9", x.person(3, 1), 2);
        x.alter(1, 0, 0);
        x.alter(1, 3, 0);
        due("a GOSSIP who likes one other", x.person(1, 1), 1);
        x.alter(1, 4, 0);
        due("a GOSSIP who likes himself alone", x.person(1, 1), 0);
        due("i 5", x.person(5, 0), BAD);
        due("what 2", x.person(0, 2), BAD);
        for (int bad : OUTSIDE) {
            due("i " + bad, x.person(bad, 1), BAD);
            due("what " + bad, x.person(0, bad), BAD);
        }
    }

    private static void personListeners() {
        promise = 6;
        LastCallersWord x = laid("n8;p011111111;p111111111;p299999999;p388888887;p098989898;p198989898;p000000001;"
            + "p377777777;d0,0;");
        int[] told = {0b110, 0b1101, 0, 0b1110111, 0b101, 0b10101, 0b10000000, 0};
        for (int i = 0; i < 8; i++) {
            due("reach of " + i, x.person(i, 1), Integer.bitCount(told[i]));
            x.call(i, 0);
            due("told by " + i, x.door(0, 2), told[i] | 1 << i);
        }
    }

    private static void likes() {
        promise = 7;
        LastCallersWord x = new LastCallersWord();
        due("0 of 2", x.likes(0, 2), 9);
        due("2 of 0", x.likes(2, 0), 5);
        due("himself", x.likes(1, 1), 9);
        due("i 5", x.likes(5, 0), BAD);
        due("j 5", x.likes(0, 5), BAD);
        for (int bad : OUTSIDE) {
            due("i " + bad, x.likes(bad, 0), BAD);
            due("j " + bad, x.likes(0, bad), BAD);
        }
        x.alter(0, 2, 1);
        due("altered", x.likes(0, 2), 1);
    }

    private static void door() {
        promise = 8;
        LastCallersWord x = new LastCallersWord();
        x.call(4, 0);
        due("host", x.door(0, 0), 0);
        due("caller", x.door(0, 1), 4);
        due("knowers: 4, who likes 0 to 4 by 2, 6, 7, 3, 7, and tells 2 and 1", x.door(0, 2), 0b10110);
        x.tries(0, 0);
        due("tried once of twice", x.door(0, 3), 0);
        x.tries(0, 0);
        due("barred", x.door(0, 3), 1);
        due("barred at no other", x.door(1, 3), 0);
        due("d 4", x.door(4, 0), BAD);
        due("what 4", x.door(0, 4), BAD);
        for (int bad : OUTSIDE) {
            due("d " + bad, x.door(bad, 0), BAD);
            due("what " + bad, x.door(0, bad), BAD);
        }
    }

    private static void call() {
        promise = 9;
        LastCallersWord x = new LastCallersWord();
        due("a PLAIN one", x.call(0, 1), 3);
        due("knowers", x.door(1, 2), 0b1101);
        due("a GOSSIP", x.call(1, 1), 4);
        due("knowers", x.door(1, 2), 0b11011);
        due("a SILENT one", x.call(2, 1), 1);
        due("knowers", x.door(1, 2), 0b100);
        due("a TRUE one", x.call(3, 1), 1);
        x.alter(3, 2, 8);
        due("who knew stays as he was", x.door(1, 2), 0b1000);
        due("a TRUE one who likes another", x.call(3, 1), 2);
        due("knowers", x.door(1, 2), 0b1100);
        due("a HOST at his own", x.call(1, 1), 4);
        due("caller", x.door(1, 1), 1);
        due("host", x.door(1, 0), 1);
        due("another door stays", x.door(0, 2), 8);
        due("a call lets nobody try anew", x.tries(2, 1), 0);
        x.tries(2, 1);
        x.call(3, 1);
        due("barred, though he knows", x.tries(2, 1), NO);
        int before = x.count(6);
        due("i 5", x.call(5, 0), BAD);
        due("d 4", x.call(0, 4), BAD);
        for (int bad : OUTSIDE) {
            due("i " + bad, x.call(bad, 0), BAD);
            due("d " + bad, x.call(0, bad), BAD);
        }
        due("BAD is not undone", x.count(6), before);
    }

    private static void tries() {
        promise = 10;
        LastCallersWord x = new LastCallersWord();
        due("who knows", x.tries(3, 0), 1);
        due("wrong once", x.tries(1, 0), 0);
        due("wrong twice", x.tries(1, 0), 0);
        due("barred", x.tries(1, 0), NO);
        due("not at another", x.tries(1, 1), 0);
        due("another there", x.tries(0, 0), 0);
        due("undone can be", x.count(6), 5);
        x.day();
        due("behind a day", x.tries(1, 0), 0);
        x.call(1, 0);
        due("who knows now", x.tries(1, 0), 1);
        x.call(3, 0);
        due("one wrong ahead of the right one counts on", x.tries(1, 0), 0);
        due("barred", x.tries(1, 0), NO);
        due("i 5", x.tries(5, 0), BAD);
        due("d 4", x.tries(0, 4), BAD);
        for (int bad : OUTSIDE) {
            due("i " + bad, x.tries(bad, 0), BAD);
            due("d " + bad, x.tries(0, bad), BAD);
        }
        LastCallersWord nine = laid("n2;p000;p000;d0,0;b9;");
        for (int turn = 0; turn < 9; turn++) {
            due("turn " + turn, nine.tries(1, 0), 0);
        }
        due("the tenth", nine.tries(1, 0), NO);
    }

    private static void day() {
        promise = 11;
        LastCallersWord x = new LastCallersWord();
        due("first", x.day(), 1);
        due("nobody tells", x.door(3, 2), 13);
        x.call(4, 0);
        x.call(4, 1);
        x.tries(3, 0);
        x.tries(3, 0);
        x.tries(0, 1);
        due("barred", x.door(0, 3), 8);
        due("second", x.day(), 2);
        due("1 tells 3 rather than 0", x.door(0, 2), 0b11110);
        due("and so at each door", x.door(1, 2), 0b11110);
        due("barred no more", x.door(0, 3), 0);
        due("wrong once anew", x.tries(0, 1), 0);
        due("not barred", x.tries(0, 1), 0);
        x.seen(0, 0, 1);
        due("third", x.day(), 3);
        due("then 0", x.door(0, 2), 0b11111);
        due("days", x.count(3), 3);
        due("what is seen stays", x.count(5), 1);
        due("caller stays", x.door(0, 1), 4);
    }

    private static void dayAtTheSameTime() {
        promise = 11;
        LastCallersWord x = laid("n5;p100012;p100012;p399000;p100000;p100000;d0,2;");
        due("two gossips know", x.door(0, 2), 0b00111);
        x.day();
        due("both tell 4, neither 3", x.door(0, 2), 0b10111);
        x.day();
        due("then 3", x.door(0, 2), 0b11111);
        LastCallersWord chain = laid("n5;p101000;p100100;p100010;p100001;p100000;d0,0;");
        due("0 and 1 know", chain.door(0, 2), 0b00011);
        chain.day();
        due("one step a day", chain.door(0, 2), 0b00111);
        LastCallersWord alike = laid("n6;p1055555;p0000000;p0000000;p0000000;p0000000;p0000000;d0,0;");
        alike.day();
        due("of like ones the lowest", alike.door(0, 2), 0b011111);
        alike.alter(0, 5, 0);
        alike.day();
        due("nobody is told whom he does not like", alike.door(0, 2), 0b011111);
    }

    private static void dayForgivesAll() {
        promise = 11;
        LastCallersWord x = laid("n8;p200000000;p200000000;p200000000;p200000000;p200000000;p200000000;p200000000;"
            + "p200000000;d0,0;d0,1;d0,2;d0,3;d0,4;b1;");
        for (int d = 0; d < 5; d++) {
            for (int i = 0; i < 8; i++) {
                due("tries " + i + " " + d, x.tries(i, d), i == d ? 1 : 0);
            }
            due("barred at " + d, x.door(d, 3), 255 - (1 << d));
        }
        x.call(1, 0);
        x.tries(0, 0);
        x.day();
        for (int d = 0; d < 5; d++) {
            due("barred at " + d, x.door(d, 3), 0);
        }
    }

    private static void alter() {
        promise = 12;
        LastCallersWord x = new LastCallersWord();
        due("what it was", x.alter(0, 1, 9), 3);
        due("again", x.alter(0, 1, 0), 9);
        due("the same", x.alter(0, 1, 0), 0);
        due("himself", x.alter(1, 1, 2), 9);
        due("likes himself", x.likes(1, 1), 2);
        due("undone can be", x.count(6), 4);
        due("v 10", x.alter(0, 1, 10), BAD);
        due("i 5", x.alter(5, 0, 1), BAD);
        due("j 5", x.alter(0, 5, 1), BAD);
        for (int bad : OUTSIDE) {
            due("i " + bad, x.alter(bad, 0, 1), BAD);
            due("j " + bad, x.alter(0, bad, 1), BAD);
            due("v " + bad, x.alter(0, 0, bad), BAD);
        }
        due("nothing changed", x.likes(0, 0), 0);
        due("undone can be", x.count(6), 4);
        due("knowers stay", x.door(3, 2), 13);
    }

    private static void undo() {
        promise = 13;
        LastCallersWord x = new LastCallersWord();
        due("nothing", x.undo(), NO);
        x.tries(1, 0);
        x.tries(1, 0);
        x.call(4, 0);
        x.day();
        x.alter(0, 1, 7);
        x.seen(0, 0, 1);
        due("the altering", x.undo(), 4);
        due("liking", x.likes(0, 1), 3);
        due("the day", x.undo(), 3);
        due("knowers", x.door(0, 2), 0b10110);
        due("barred again", x.door(0, 3), 2);
        due("days", x.count(3), 0);
        due("the call", x.undo(), 2);
        due("caller", x.door(0, 1), 3);
        due("knowers", x.door(0, 2), 8);
        due("a try", x.undo(), 1);
        due("barred no more", x.door(0, 3), 0);
        due("the first", x.undo(), 0);
        due("nothing more", x.undo(), NO);
        due("what is seen stays", x.count(5), 1);
        for (int turn = 1; turn <= 11; turn++) {
            x.day();
            due("can be undone", x.count(6), Math.min(8, turn));
        }
        for (int left = 7; left >= 0; left--) {
            due("undo", x.undo(), left);
        }
        due("the ninth", x.undo(), NO);
        due("days", x.count(3), 3);
    }

    private static void undoOfTheLastEight() {
        promise = 13;
        LastCallersWord x = new LastCallersWord();
        for (int turn = 0; turn < 25; turn++) {
            x.alter(0, 0, turn % 10);
            x.call(turn % 5, turn % 4);
        }
        for (int turn = 24; turn > 20; turn--) {
            due("caller", x.door(turn % 4, 1), turn % 5);
            x.undo();
            due("caller ahead of it", x.door(turn % 4, 1), (turn - 4) % 5);
            due("liking", x.likes(0, 0), turn % 10);
            x.undo();
            due("liking ahead of it", x.likes(0, 0), (turn - 1) % 10);
        }
        due("no more", x.undo(), NO);
    }

    private static void shutOut() {
        promise = 14;
        LastCallersWord x = new LastCallersWord();
        due("0 and 1", x.shutOut(), 3);
        x.call(1, 0);
        due("1", x.shutOut(), 2);
        x.call(2, 3);
        due("1 and 3", x.shutOut(), 10);
        x.call(0, 2);
        due("2 is told", x.shutOut(), 10);
        LastCallersWord y = laid("n2;p000;p000;d0,1;d0,1;d0,1;d0,1;d0,1;");
        due("all five", y.shutOut(), 31);
        y.call(0, 4);
        due("but the last", y.shutOut(), 15);
    }

    private static void knowsBy() {
        promise = 15;
        LastCallersWord x = new LastCallersWord();
        x.call(4, 0);
        int[] knowers = {0b10110, 0b11110, 0b11111, 0b11111};
        for (int n = 0; n < knowers.length; n++) {
            due("n " + n, x.knowsBy(0, n), knowers[n]);
        }
        due("n 20", x.knowsBy(0, 20), 31);
        due("another", x.knowsBy(1, 20), 4);
        due("n 21", x.knowsBy(0, 21), BAD);
        due("d 4", x.knowsBy(4, 0), BAD);
        for (int bad : OUTSIDE) {
            due("n " + bad, x.knowsBy(0, bad), BAD);
            due("d " + bad, x.knowsBy(bad, 0), BAD);
        }
        due("no day went by", x.count(3), 0);
        due("knowers stay", x.door(0, 2), 0b10110);
        x.alter(1, 0, 9);
        due("as likings are now", x.knowsBy(0, 1), 0b10111);
    }

    private static void when() {
        promise = 16;
        LastCallersWord x = new LastCallersWord();
        x.call(4, 0);
        int[] days = {2, 0, 0, 1, 0};
        for (int i = 0; i < 5; i++) {
            due("i " + i, x.when(i, 0), days[i]);
        }
        due("never", x.when(0, 1), NONE);
        due("i 5", x.when(5, 0), BAD);
        due("d 4", x.when(0, 4), BAD);
        for (int bad : OUTSIDE) {
            due("i " + bad, x.when(bad, 0), BAD);
            due("d " + bad, x.when(0, bad), BAD);
        }
        due("no day went by", x.count(3), 0);
        LastCallersWord far = laid("n8;p199900000;p199900000;p199900000;p399087654;p000000000;p000000000;"
            + "p000000000;p000000000;d0,3;");
        due("the last one of all", far.when(7, 0), NONE);
    }

    private static void lets() {
        promise = 17;
        LastCallersWord x = new LastCallersWord();
        due("0 by 0 and 1", x.lets(0, 0), 0b00011);
        due("4 tells 1, who tells 3", x.lets(0, 1), 0b00011);
        due("and then 0", x.lets(0, 2), 0b10011);
        due("n 5", x.lets(0, 5), 0b10011);
        due("1 by 1 and 4", x.lets(1, 0), 0b10010);
        due("n 6", x.lets(0, 6), BAD);
        due("d 4", x.lets(4, 0), BAD);
        for (int bad : OUTSIDE) {
            due("n " + bad, x.lets(0, bad), BAD);
            due("d " + bad, x.lets(bad, 0), BAD);
        }
        x.alter(3, 0, 8);
        due("as likings are now", x.lets(0, 0), 0b01011);
        due("nobody called", x.door(0, 1), 3);
    }

    private static void keeps() {
        promise = 18;
        LastCallersWord x = new LastCallersWord();
        due("0", x.keeps(0, 0, 0), 0b11100);
        due("0 behind 2 days", x.keeps(0, 0, 2), 0b01100);
        due("the same at each door", x.keeps(0, 3, 2), 0b01100);
        due("1", x.keeps(1, 0, 5), 0b01101);
        due("i 5", x.keeps(5, 0, 0), BAD);
        due("d 4", x.keeps(0, 4, 0), BAD);
        due("n 6", x.keeps(0, 0, 6), BAD);
        for (int bad : OUTSIDE) {
            due("i " + bad, x.keeps(bad, 0, 0), BAD);
            due("d " + bad, x.keeps(0, bad, 0), BAD);
            due("n " + bad, x.keeps(0, 0, bad), BAD);
        }
        x.alter(2, 0, 0);
        x.alter(4, 1, 0);
        due("as likings are now", x.keeps(0, 0, 2), 0b11100);
    }

    private static void allIn() {
        promise = 19;
        LastCallersWord x = new LastCallersWord();
        due("how many", x.allIn(-1), 2);
        due("at 0", x.allIn(0), 0);
        due("at 1: 0 tells 2 and 3", x.allIn(1), 1);
        due("at 2", x.allIn(2), NONE);
        x.alter(0, 1, 9);
        due("at 1: 0 tells 1 and 2", x.allIn(1), 0);
        x.call(2, 3);
        due("how many", x.allIn(-1), 3);
        due("at 3: 0 tells 1 and 2", x.allIn(3), 1);
        x.call(0, 0);
        x.call(0, 1);
        x.call(3, 3);
        due("none has to", x.allIn(-1), 0);
        due("at 0", x.allIn(0), NONE);
        due("d 4", x.allIn(4), BAD);
        due("d -2", x.allIn(-2), BAD);
        due("d least", x.allIn(Integer.MIN_VALUE), BAD);
        due("d most", x.allIn(Integer.MAX_VALUE), BAD);
    }

    private static void friend() {
        promise = 20;
        LastCallersWord x = new LastCallersWord();
        int[] who = {3, 2, 0, 1, 1};
        int[] much = {7, 8, 9, 6, 2};
        for (int i = 0; i < 5; i++) {
            due("who " + i, x.friend(i, 0), who[i]);
            due("how much " + i, x.friend(i, 1), much[i]);
        }
        x.alter(0, 4, 2);
        due("of like ones the lowest", x.friend(4, 0), 0);
        x.alter(0, 0, 9);
        due("himself is not looked at", x.friend(0, 0), 3);
        for (int i = 1; i < 5; i++) {
            x.alter(i, 0, 0);
        }
        due("whom nobody likes", x.friend(0, 0), 1);
        due("by 0", x.friend(0, 1), 0);
        due("i 5", x.friend(5, 0), BAD);
        due("what 2", x.friend(0, 2), BAD);
        for (int bad : OUTSIDE) {
            due("i " + bad, x.friend(bad, 0), BAD);
            due("what " + bad, x.friend(0, bad), BAD);
        }
    }

    private static void seen() {
        promise = 21;
        LastCallersWord x = new LastCallersWord();
        due("i 5", x.seen(5, 0, 0), BAD);
        due("d 4", x.seen(0, 4, 0), BAD);
        due("could 2", x.seen(0, 0, 2), BAD);
        for (int many = 1; many <= 8; many++) {
            due("seen", x.seen(0, 0, 1), many);
        }
        due("the ninth", x.seen(0, 0, 1), FULL);
        due("a bad ninth", x.seen(0, 0, 2), BAD);
        for (int bad : OUTSIDE) {
            due("i " + bad, x.seen(bad, 0, 0), BAD);
            due("d " + bad, x.seen(0, bad, 0), BAD);
            due("could " + bad, x.seen(0, 0, bad), BAD);
        }
        due("how many", x.count(5), 8);
        due("not undone", x.count(6), 0);
    }

    private static void forget() {
        promise = 22;
        LastCallersWord x = new LastCallersWord();
        due("nothing", x.forget(), 0);
        x.seen(0, 0, 1);
        x.seen(1, 0, 0);
        due("called", x.called(0), 0b00001);
        due("two", x.forget(), 2);
        due("none", x.count(5), 0);
        due("called by anyone", x.called(0), 31);
        due("again", x.seen(0, 0, 1), 1);
    }

    private static void called() {
        promise = 23;
        LastCallersWord x = new LastCallersWord();
        due("nothing seen", x.called(0), 31);
        x.seen(2, 0, 1);
        due("who tells 2, or is 2", x.called(0), 0b10101);
        due("at another", x.called(1), 31);
        x.seen(1, 0, 0);
        due("and not 1", x.called(0), 0b00101);
        x.seen(1, 0, 0);
        due("seen twice", x.called(0), 0b00101);
        x.alter(0, 1, 9);
        due("as likings are now", x.called(0), 0b00100);
        x.call(4, 0);
        x.day();
        due("whoever called", x.called(0), 0b00100);
        x.seen(3, 0, 1);
        due("nobody", x.called(0), 0);
        due("d 4", x.called(4), BAD);
        for (int bad : OUTSIDE) {
            due("d " + bad, x.called(bad), BAD);
        }
        x.seen(0, 3, 0);
        due("at 3, not 0", x.called(3), 0b11100);
        due("at 0 still", x.called(0), 0);
        LastCallersWord both = new LastCallersWord();
        both.seen(1, 0, 0);
        both.seen(1, 0, 1);
        due("who was seen to come in, and not to, was seen to come in", both.called(0), 0b10010);
    }

    private static void guess() {
        promise = 24;
        LastCallersWord x = laid("n2;p000;p000;d0,0;w5;w9;w5;w60;w9;w1;");
        int[] order = {3, 1, 4, 0, 2, 5, NONE};
        for (int k = 0; k < order.length; k++) {
            due("k " + k, x.guess(k), order[k]);
        }
        due("k -1", x.guess(-1), BAD);
        due("k least", x.guess(Integer.MIN_VALUE), BAD);
        due("k most", x.guess(Integer.MAX_VALUE), NONE);
        LastCallersWord none = laid("n2;p000;p000;d0,0;");
        due("no words", none.guess(0), NONE);
        due("no words, k -1", none.guess(-1), BAD);
    }

    private static void mean() {
        promise = 25;
        LastCallersWord x = laid("n2;p000;p000;d0,0;w5;w9;w5;w60;w9;w1;");
        due("60 + 18 + 27 + 20 + 25 + 6 of 89", x.mean(0), 156);
        due("below", x.mean(1), 89);
        LastCallersWord y = laid("n2;p000;p000;d0,0;w2;w2;w2;");
        due("2 of 1", y.mean(0), 2);
        due("below", y.mean(1), 1);
        due("part 2", y.mean(2), BAD);
        LastCallersWord none = laid("n2;p000;p000;d0,0;");
        due("no words", none.mean(0), NONE);
        due("no words, below", none.mean(1), NONE);
        due("no words, part 2", none.mean(2), BAD);
        for (int bad : OUTSIDE) {
            due("part " + bad, x.mean(bad), BAD);
        }
    }

    private static void inTime() {
        promise = 26;
        LastCallersWord x = laid("n2;p000;p000;d0,0;w5;w9;w5;w60;w9;w1;b4;");
        due("60 + 9 + 9 + 5 of 89", x.inTime(0), 83);
        due("below", x.inTime(1), 89);
        LastCallersWord y = laid("n2;p000;p000;d0,0;w2;w4;w2;b1;");
        due("4 of 8", y.inTime(0), 1);
        due("below", y.inTime(1), 2);
        LastCallersWord all = laid("n2;p000;p000;d0,0;w2;w4;w2;");
        due("all", all.inTime(0), 1);
        due("below", all.inTime(1), 1);
        due("part 2", y.inTime(2), BAD);
        LastCallersWord none = laid("n2;p000;p000;d0,0;");
        due("no words", none.inTime(0), NONE);
        due("no words, part 2", none.inTime(2), BAD);
        for (int bad : OUTSIDE) {
            due("part " + bad, x.inTime(bad), BAD);
        }
    }

    private static void likely() {
        promise = 27;
        LastCallersWord x = new LastCallersWord();
        due("shut out, and 3 tells nobody", x.likely(0, 3, 0), 1);
        due("below", x.likely(0, 3, 1), 1);
        due("at 3, by a call of 2", x.likely(3, 1, 0), 1);
        due("below", x.likely(3, 1, 1), 5);
        due("now", x.likely(3, 0, 0), 0);
        due("below", x.likely(3, 0, 1), 1);
        LastCallersWord y = laid("n2;p109;p000;d1,0;d0,0;d1,1;");
        due("both know; 0 tells 1, 1 tells none", y.likely(0, 3, 0), 0);
        due("below", y.likely(0, 3, 1), 1);
        due("0 of those who know: 1 of 2", y.likely(1, 1, 0), 1);
        due("below", y.likely(1, 1, 1), 2);
        due("once 1 has called 0 never knows: 3 of 4", y.likely(1, 2, 0), 3);
        due("below", y.likely(1, 2, 1), 4);
        due("7 of 8", y.likely(1, 3, 0), 7);
        due("below", y.likely(1, 3, 1), 8);
        LastCallersWord first = laid("n5;p109876;p200000;p200000;p200000;p200000;d4,0;");
        due("no DAY yet", first.likely(0, 0, 0), 1);
        due("the DAY comes behind the call: by 1, 2, 3", first.likely(0, 1, 0), 3);
        due("below", first.likely(0, 1, 1), 5);
        due("n 4", x.likely(0, 4, 0), BAD);
        due("d 4", x.likely(4, 0, 0), BAD);
        due("part 2", x.likely(0, 0, 2), BAD);
        for (int bad : OUTSIDE) {
            due("d " + bad, x.likely(bad, 0, 0), BAD);
            due("n " + bad, x.likely(0, bad, 0), BAD);
            due("part " + bad, x.likely(0, 0, bad), BAD);
        }
        due("nothing happened", x.count(6), 0);
    }

    private static void street() {
        promise = 28;
        LastCallersWord x = new LastCallersWord();
        // z 0: x 1, draw 0: a day. Then x 6152, 6152 * 6152 = 37847104, modulo 65521 is 41487, draw 10371:
        // by 64 is 162, modulo 3 is 0: a day. Then x 12303, 151363809, 10299, draw 2574: by 64 is 40,
        // modulo 3 is 1: person 2574 modulo 5 = 4 calls at 321 modulo 4 = 1, and tells 2 and 1.
        due("a day", x.street(0, 1, 0), 3);
        due("two", x.street(0, 2, 0), 3);
        due("4 calls at 1", x.street(0, 3, 0), 1);
        due("never all in", x.street(0, 3, 1), 0);
        LastCallersWord calm = laid("n2;p099;p099;d0,0;");
        due("always all in", calm.street(9999, 60, 1), 60);
        due("nobody shut out", calm.street(9999, 60, 0), 0);
        due("nothing happened", x.door(1, 1), 2);
        due("n 0", x.street(0, 0, 0), BAD);
        due("n 61", x.street(0, 61, 0), BAD);
        due("z 10000", x.street(10000, 1, 0), BAD);
        due("what 2", x.street(0, 1, 2), BAD);
        for (int bad : OUTSIDE) {
            due("z " + bad, x.street(bad, 1, 0), BAD);
            due("n " + bad, x.street(0, bad, 0), BAD);
            due("what " + bad, x.street(0, 1, bad), BAD);
        }
        due("nothing to undo", x.count(6), 0);
    }

    private static void streetDays() {
        promise = 28;
        // The first two times of z 0 are days: 0 tells 4 and then 5, at both doors.
        LastCallersWord x = laid("n6;p1098765;p0000000;p0000000;p0000000;p0000000;p0000000;d4,0;d5,0;");
        due("one day", x.street(0, 1, 0), 0b10);
        due("nobody is shut out behind none", x.street(0, 1, 1), 0);
        due("two days", x.street(0, 2, 0), 0);
        due("behind the second", x.street(0, 2, 1), 1);
        due("no day went by", x.shutOut(), 0b11);
        x.day();
        due("from now on", x.street(0, 1, 0), 0);
        due("once", x.street(0, 1, 1), 1);
    }

    private static void keep() {
        promise = 29;
        LastCallersWord x = new LastCallersWord();
        x.day();
        due("one", x.keep(), 1);
        due("can still be undone", x.count(6), 1);
        due("two", x.keep(), 2);
        due("three", x.keep(), FULL);
        due("kept", x.count(7), 2);
        x.back();
        due("room again", x.keep(), 2);
    }

    private static void back() {
        promise = 30;
        LastCallersWord x = new LastCallersWord();
        due("nothing", x.back(), NO);
        x.alter(0, 1, 7);
        x.day();
        x.tries(1, 0);
        x.tries(1, 0);
        x.keep();
        x.call(4, 0);
        x.keep();
        x.alter(0, 1, 8);
        x.day();
        x.seen(0, 0, 1);
        x.write('n');
        due("the last", x.back(), 1);
        due("caller", x.door(0, 1), 4);
        due("knowers", x.door(0, 2), 0b10110);
        due("liking", x.likes(0, 1), 7);
        due("days", x.count(3), 1);
        due("barred", x.door(0, 3), 2);
        due("undone", x.count(6), 0);
        due("undo", x.undo(), NO);
        due("seen stays", x.count(5), 1);
        due("the text stays", x.count(8), 1);
        x.day();
        due("the first", x.back(), 0);
        due("caller", x.door(0, 1), 3);
        due("knowers", x.door(0, 2), 8);
        due("barred", x.door(0, 3), 2);
        due("undo", x.undo(), NO);
        due("nothing left", x.back(), NO);
    }

    private static void count() {
        promise = 31;
        LastCallersWord x = laid("n3;p0000;p0000;p0000;d0,0;d1,1;w1;w2;w3;w4;b7;");
        x.day();
        x.day();
        x.seen(0, 0, 0);
        x.keep();
        x.alter(0, 1, 1);
        int[] counts = {3, 2, 4, 2, 7, 1, 3, 1, 46};
        for (int what = 0; what < counts.length; what++) {
            due("count " + what, x.count(what), counts[what]);
        }
        due("what 9", x.count(9), BAD);
        for (int bad : OUTSIDE) {
            due("what " + bad, x.count(bad), BAD);
        }
    }

    /** With 8 persons, 5 doors, 6 words: no row may be too short for them. */
    private static void theLargestStreet() {
        promise = 31;
        LastCallersWord x = laid("n8;p101234567;p100000001;p200000000;p300000009;p000000000;p000000000;p000000000;"
            + "p100000000;d7,0;d0,7;d7,3;d6,1;d7,7;w1;w1;w1;w1;w1;w1;b1;");
        due("persons", x.count(0), 8);
        due("doors", x.count(1), 5);
        due("words", x.count(2), 6);
        int[] knowers = {0b11100001, 0b10000000, 0b10001000, 0b10000010, 0b10000000};
        for (int d = 0; d < 5; d++) {
            due("knowers of " + d, x.door(d, 2), knowers[d]);
            due("barred at " + d, x.door(d, 3), 0);
        }
        due("shut out", x.shutOut(), 0b01010);
        due("all in", x.allIn(-1), 2);
        due("0 at 1", x.allIn(1), 0);
        due("0 at 3", x.allIn(3), 0);
        due("friend of 7", x.friend(7, 0), 3);
        due("friend of 0", x.friend(0, 1), 0);
        due("by a day", x.knowsBy(0, 1), 0b11110001);
        due("by four", x.knowsBy(0, 4), 0b11111111);
        due("of 1, whom 0 likes least", x.when(1, 0), 4);
        due("lets", x.lets(0, 5), 0b10001011);
        due("keeps", x.keeps(7, 4, 5), 0b01110100);
        due("likely", x.likely(4, 3, 0), 0);
        due("a day", x.day(), 1);
        due("then", x.door(0, 2), 0b11110001);
        due("the last word", x.guess(5), 5);
        due("mean", x.mean(0), 7);
        due("below", x.mean(1), 2);
        for (int z = 0; z < 10000; z += 1111) {
            due("street ends", x.street(z, 60, 1) >= 0 ? 1 : 0, 1);
        }
    }
}
