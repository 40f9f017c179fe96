import java.io.IOException;

/** The edges of what is seen, of guessing, of likelihoods, streets and what is kept: promises 21 to 31. */
public final class GuessingEdgeTests {
    private static final int BAD = -1, NO = -2, FULL = -3, NONE = -4;
    private static final String LEAST = "n2;p000;p000;d0,0;";

    /** By a call of 0 know 0, 1, 2; of 1 0 to 3; of 2 he; of 3 all; of 4 0, 1, 4; of 5 0, 1, 2, 5; of 6 he; of 7 all. */
    private static final String ALL_BY_NINE = "n8;p099999999;p199999999;p299999999;p399999999;p099999999;p199999999;"
        + "p299999999;p399999999;d0,0;d0,0;";

    private static final String SILENT = "n8;" + "p299999999;".repeat(8);

    private static Sheet sheet;

    public static void main(String[] args) throws IOException {
        sheet = new Sheet("GuessingEdgeTests");
        eightSeen();
        couldOrNot();
        forgotten();
        nothingSeenThere();
        justThoseSeen();
        seenBothWays();
        seenOutlivesAll();
        orderOfGuesses();
        notSoManyGuesses();
        triesInTheMean();
        inTimeOrNot();
        noWords();
        likelyDays();
        likelyFirstCallThenDay();
        drawsOfOneTime();
        daysOfAStreet();
        drawsWithoutWrapping();
        timesOfAStreet();
        twoKept();
        backToTheLastKept();
        keptWithLikingsAndTries();
        keptWithoutSeen();
        counts();
        sheet.end();
    }

    private static void eightSeen() {
        sheet.sentence("SEEN (8 at most) is that a PERSON could come in at a DOOR, or not (1, 0), today.");
        LastCallersWord x = Sheet.laid(ALL_BY_NINE);
        for (int i = 0; i < 7; i++) {
            sheet.due("seen", x.seen(i, 0, 1), i + 1);
        }
        sheet.due("by 3 and 7 all seven know", x.called(0), 0b10001000);
        sheet.due("the eighth", x.seen(7, 0, 0), 8);
        sheet.due("is looked at", x.called(0), 0);
        sheet.due("the ninth", x.seen(0, 1, 0), FULL);
        sheet.due("again", x.seen(0, 1, 0), FULL);
        sheet.due("is not looked at", x.called(1), 255);
        sheet.due("how many", x.count(5), 8);
        sheet.due("not undone", x.count(6), 0);
    }

    private static void couldOrNot() {
        sheet.sentence("SEEN: how many. BAD; FULL.");
        LastCallersWord x = Sheet.laid(LEAST);
        sheet.due("could -1", x.seen(0, 0, -1), BAD);
        sheet.due("could 2", x.seen(0, 0, 2), BAD);
        sheet.due("i 2", x.seen(2, 0, 0), BAD);
        sheet.due("d 1", x.seen(0, 1, 0), BAD);
        sheet.due("none of these", x.count(5), 0);
        sheet.due("not", x.seen(0, 0, 0), 1);
        sheet.due("not 0: 1", x.called(0), 0b10);
        sheet.due("could", x.seen(1, 0, 1), 2);
        sheet.due("1 still", x.called(0), 0b10);
    }

    private static void forgotten() {
        sheet.sentence("Nothing is SEEN: how many were.");
        LastCallersWord x = Sheet.laid(LEAST);
        sheet.due("of none", x.forget(), 0);
        x.seen(0, 0, 0);
        sheet.due("of one", x.forget(), 1);
        sheet.due("again", x.forget(), 0);
        sheet.due("called by anyone", x.called(0), 0b11);
        for (int many = 1; many <= 8; many++) {
            sheet.due("seen", x.seen(0, 0, 0), many);
        }
        x.seen(0, 0, 0);
        sheet.due("of eight", x.forget(), 8);
        sheet.due("room again", x.seen(1, 0, 0), 1);
        sheet.due("this one alone", x.called(0), 0b01);
    }

    private static void nothingSeenThere() {
        sheet.sentence("CALLED of a DOOR: PERSONS (bits) by whose call now, as likings are now");
        LastCallersWord x = Sheet.laid(ALL_BY_NINE);
        sheet.due("nothing seen", x.called(0), 255);
        x.seen(0, 1, 0);
        sheet.due("nothing seen there", x.called(0), 255);
        sheet.due("seen here: 0 not", x.called(1), 0b01000100);
        sheet.due("d 2", x.called(2), BAD);
        sheet.due("d -1", x.called(-1), BAD);
        x.alter(3, 0, 7);
        sheet.due("as likings are now", x.called(1), 0b01001100);
        x.call(0, 1);
        x.day();
        sheet.due("whoever called, whatever day it is", x.called(1), 0b01001100);
    }

    private static void justThoseSeen() {
        sheet.sentence("just those who were SEEN to come in there of those who were SEEN there would KNOW its WORD.");
        int[] knowers = {0b111, 0b1111, 0b100, 0b11111111, 0b10011, 0b100111, 0b1000000, 0b11111111};
        int[] callers = {1, 2, 4, 0b10001000, 16, 32, 64, 0b10001000};
        for (int caller = 0; caller < 8; caller++) {
            LastCallersWord x = Sheet.laid(ALL_BY_NINE);
            for (int i = 0; i < 8; i++) {
                x.seen(i, 1, knowers[caller] >> i & 1);
            }
            sheet.due("as by " + caller, x.called(1), callers[caller]);
        }
        LastCallersWord none = Sheet.laid(ALL_BY_NINE);
        for (int i = 0; i < 8; i++) {
            none.seen(i, 0, 0);
        }
        sheet.due("the caller himself would know", none.called(0), 0);
    }

    private static void seenBothWays() {
        sheet.sentence("just those who were SEEN to come in there of those who were SEEN there would KNOW its WORD.");
        LastCallersWord x = Sheet.laid(LEAST);
        x.seen(0, 0, 1);
        x.seen(0, 0, 1);
        sheet.due("twice the same", x.called(0), 0b01);
        x.seen(0, 0, 0);
        sheet.due("SEEN to come in, and not to: SEEN to come in", x.called(0), 0b01);
        x.seen(1, 0, 0);
        sheet.due("another not", x.called(0), 0b01);
    }

    private static void seenOutlivesAll() {
        sheet.sentence("Nothing is SEEN: how many were.");
        LastCallersWord x = Sheet.laid(LEAST);
        x.keep();
        x.seen(0, 0, 1);
        x.day();
        x.call(1, 0);
        x.tries(0, 0);
        x.alter(0, 1, 1);
        x.undo();
        x.back();
        sheet.due("nothing but forget and lay take it away", x.count(5), 1);
        x.lay();
        sheet.due("lay does", x.count(5), 0);
    }

    private static void orderOfGuesses() {
        sheet.sentence("GUESS: WORDS in the order in which to try them (the likeliest first, of like ones the lowest): the k-th.");
        int[][] orders = {{0, 1, 2, 3, 4, 5}, {5, 4, 3, 2, 1, 0}, {0, 1, 2, 3, 4, 5}, {1, 3, 5, 0, 2, 4}};
        String[] words = {"w60;w5;w4;w3;w2;w1;", "w1;w2;w3;w4;w5;w60;", "w7;w7;w7;w7;w7;w7;", "w1;w2;w1;w2;w1;w2;"};
        for (int street = 0; street < words.length; street++) {
            LastCallersWord x = Sheet.laid(LEAST + words[street]);
            for (int k = 0; k < 6; k++) {
                sheet.due("guess " + k + " of " + words[street], x.guess(k), orders[street][k]);
            }
        }
    }

    private static void notSoManyGuesses() {
        sheet.sentence("GUESS (0 first). NONE: there are not so many; BAD.");
        for (int words = 0; words <= 6; words++) {
            LastCallersWord x = Sheet.laid(LEAST + "w1;".repeat(words));
            if (words > 0) {
                sheet.due("the last of " + words, x.guess(words - 1), words - 1);
            }
            sheet.due("one more than " + words, x.guess(words), NONE);
            sheet.due("k most", x.guess(Integer.MAX_VALUE), NONE);
            sheet.due("k -1", x.guess(-1), BAD);
            sheet.due("k least", x.guess(Integer.MIN_VALUE), BAD);
        }
    }

    private static void fraction(String what, int above, int below, int wantAbove, int wantBelow) {
        sheet.due(what + ", above", above, wantAbove);
        sheet.due(what + ", below", below, wantBelow);
    }

    private static void triesInTheMean() {
        sheet.sentence("TRIES: how many it takes in the mean, in lowest terms (each WORD is by its parts of all parts likely).");
        String[] words = {"w1;", "w60;", "w1;w1;w1;w1;w1;w1;", "w60;w60;w60;w60;w60;w60;", "w1;w2;w3;w4;w5;w6;", "w1;w60;", "w60;w60;"};
        int[] above = {1, 1, 7, 7, 8, 62, 3};
        int[] below = {1, 1, 2, 2, 3, 61, 2};
        for (int street = 0; street < words.length; street++) {
            LastCallersWord x = Sheet.laid(LEAST + words[street]);
            fraction("mean of " + words[street], x.mean(0), x.mean(1), above[street], below[street]);
            sheet.due("part 2", x.mean(2), BAD);
            sheet.due("part -1", x.mean(-1), BAD);
        }
    }

    private static void inTimeOrNot() {
        sheet.sentence("IN TIME: how likely it takes no more than B, in lowest terms; none (no WORDS).");
        int[] above = {2, 11, 5, 6, 20, 1, 1, 1, 1};
        int[] below = {7, 21, 7, 7, 21, 1, 1, 1, 1};
        for (int limit = 1; limit <= 9; limit++) {
            LastCallersWord x = Sheet.laid(LEAST + "w1;w2;w3;w4;w5;w6;b" + limit + ";");
            fraction("within " + limit, x.inTime(0), x.inTime(1), above[limit - 1], below[limit - 1]);
        }
        LastCallersWord usual = Sheet.laid(LEAST + "w1;w2;w3;w4;w5;w6;");
        fraction("within 3", usual.inTime(0), usual.inTime(1), 5, 7);
        LastCallersWord one = Sheet.laid(LEAST + "w60;b1;");
        fraction("the only one", one.inTime(0), one.inTime(1), 1, 1);
        sheet.due("part 2", one.inTime(2), BAD);
        sheet.due("part -1", one.inTime(-1), BAD);
    }

    private static void noWords() {
        sheet.sentence("in lowest terms; none (no WORDS).");
        LastCallersWord x = Sheet.laid(LEAST);
        for (int part = 0; part <= 1; part++) {
            sheet.due("mean", x.mean(part), NONE);
            sheet.due("in time", x.inTime(part), NONE);
        }
    }

    private static void likelyDays() {
        sheet.sentence("LIKELY for a DOOR and n (0 to 3) DAYS");
        LastCallersWord x = Sheet.laid("n8;p399999999;" + "p200000000;".repeat(7) + "d0,0;d1,0;d0,1;");
        int[] above = {0, 7, 63, 511}, below = {1, 8, 64, 512};
        int[] aboveOfOne = {0, 3, 27, 219}, belowOfOne = {1, 4, 32, 256};
        for (int n = 0; n <= 3; n++) {
            fraction("host 0 behind " + n, x.likely(0, n, 0), x.likely(0, n, 1), above[n], below[n]);
            fraction("host 1 behind " + n, x.likely(1, n, 0), x.likely(1, n, 1), aboveOfOne[n], belowOfOne[n]);
            fraction("surely, behind " + n, x.likely(2, n, 0), x.likely(2, n, 1), 1, 1);
        }
        sheet.due("n -1", x.likely(0, -1, 0), BAD);
        sheet.due("n 4", x.likely(0, 4, 0), BAD);
        sheet.due("d 3", x.likely(3, 0, 0), BAD);
        sheet.due("part 2", x.likely(0, 0, 2), BAD);
        LastCallersWord two = Sheet.laid("n2;p309;p200;d0,0;");
        fraction("of two", two.likely(0, 3, 0), two.likely(0, 3, 1), 7, 8);
    }

    private static void likelyFirstCallThenDay() {
        sheet.sentence("on each, first, any PERSON alike likely comes to it, who calls if he KNOWS its WORD, then the DAY");
        LastCallersWord x = Sheet.laid("n5;p109876;" + "p200000;".repeat(4) + "d4,0;");
        fraction("now", x.likely(0, 0, 0), x.likely(0, 0, 1), 1, 1);
        fraction("1, 2 and 3 call, 0 calls and tells 4 by the DAY, 4 does not know and is told",
            x.likely(0, 1, 0), x.likely(0, 1, 1), 3, 5);
        sheet.due("nobody called", x.door(0, 1), 0);
        sheet.due("nothing to undo", x.count(6), 0);
    }

    private static void drawsOfOneTime() {
        sheet.sentence("in each PERSON DRAW modulo N calls at DOOR (DRAW by 8, cut) modulo as many");
        // z 1: x 7920, its square 62726400 modulo 65521 is 22803, DRAW 5700: by 64 is 89, modulo 3 is 2: a call of
        // 5700 modulo 8 = 4 at 712 modulo 5 = 2.
        LastCallersWord x = Sheet.laid(SILENT + "d0,0;d0,0;d4,0;d0,0;d0,0;");
        sheet.due("4 calls at 2", x.street(1, 1, 0), 0);
        sheet.due("once nobody was shut out", x.street(1, 1, 1), 1);
        LastCallersWord y = Sheet.laid(SILENT + "d0,0;d0,0;d0,0;d0,0;d0,0;");
        sheet.due("4 calls at 2", y.street(1, 1, 0), 0b00100);
        sheet.due("never", y.street(1, 1, 1), 0);
        // z 0: x 1, DRAW 0: a DAY.
        sheet.due("a day", y.street(0, 1, 0), 0);
        sheet.due("z -1", y.street(-1, 1, 0), BAD);
        sheet.due("z 10000", y.street(10000, 1, 0), BAD);
    }

    private static void daysOfAStreet() {
        sheet.sentence("if (DRAW by 64, cut) modulo 3 is not 0, else a DAY goes by");
        // z 0: the first two times are DAYS (DRAW 0 and 10371): 0 tells 4, then 5, at the first door and at the last.
        LastCallersWord x = Sheet.laid("n6;p1098765;" + "p2000000;".repeat(5) + "d4,0;d0,0;d0,0;d0,0;d5,0;");
        sheet.due("ahead of all", x.shutOut(), 0b10001);
        sheet.due("behind a DAY", x.street(0, 1, 0), 0b10000);
        sheet.due("behind two", x.street(0, 2, 0), 0);
        sheet.due("never behind the first", x.street(0, 1, 1), 0);
        sheet.due("once behind the second", x.street(0, 2, 1), 1);
        sheet.due("all is as it was", x.shutOut(), 0b10001);
    }

    private static void drawsWithoutWrapping() {
        sheet.sentence("DRAW being ((x times x) modulo 65521) by 4, cut, x 7919 z, 6151 (the time, 0 first) and 1 together");
        // z 9999: x 79182082, its square 6269802109854724 is no int. The bits were worked out in Python.
        int[] bits = {31, 31, 31, 31, 31, 31, 31, 31, 31, 31, 31, 31, 31, 31, 30, 30, 30, 30, 30, 30, 28, 28, 29, 29, 29,
            29, 29, 29, 29, 29, 31, 31, 31, 31, 31, 31, 29, 28, 29, 29, 29, 29, 29, 29, 29, 29, 29, 29, 29, 29, 29, 29, 29,
            29, 29, 29, 31, 31, 27, 27};
        LastCallersWord x = Sheet.laid(SILENT + "d0,7;d1,7;d2,7;d3,7;d4,7;");
        for (int n = 1; n <= 60; n++) {
            sheet.due("z 9999, n " + n, x.street(9999, n, 0), bits[n - 1]);
        }
        int[] calm = {0, 0, 1, 2, 3, 4, 5, 6, 7, 7, 8, 9, 10, 10, 11, 12, 13, 13, 13, 13, 13, 14, 14, 14, 15, 16, 16, 16, 16,
            16, 17, 17, 17, 17, 17, 17, 17, 18, 18, 19, 20, 20, 20, 20, 20, 21, 22, 22, 23, 24, 24, 24, 24, 24, 24, 24, 25,
            25, 26, 27};
        LastCallersWord y = Sheet.laid("n2;p200;p200;d0,0;");
        for (int n = 1; n <= 60; n++) {
            sheet.due("z 9999, how often of " + n, y.street(9999, n, 1), calm[n - 1]);
        }
    }

    private static void timesOfAStreet() {
        sheet.sentence("A STREET by z (0 to 9999) of n (1 to 60) times from now on");
        LastCallersWord x = Sheet.laid("n2;p009;p090;d0,0;");
        int[] numbers = {0, 1, 9998, 9999};
        for (int z : numbers) {
            sheet.due("always, n 1", x.street(z, 1, 1), 1);
            sheet.due("always, n 60", x.street(z, 60, 1), 60);
            sheet.due("nobody shut out", x.street(z, 60, 0), 0);
            sheet.due("n 0", x.street(z, 0, 1), BAD);
            sheet.due("n 61", x.street(z, 61, 1), BAD);
        }
        sheet.due("what 2", x.street(0, 1, 2), BAD);
        sheet.due("what -1", x.street(0, 1, -1), BAD);
        LastCallersWord now = Sheet.laid(SILENT + "d0,1;");
        sheet.due("a DAY from now on", now.street(0, 1, 0), 1);
        now.call(0, 0);
        sheet.due("a DAY from now on", now.street(0, 1, 0), 0);
        sheet.due("the call alone can be undone", now.count(6), 1);
        sheet.due("no day went by", now.count(3), 0);
    }

    private static void twoKept() {
        sheet.sentence("KEPT is all as it stands (likings too), but what is SEEN: 2 at most.");
        LastCallersWord x = Sheet.laid(LEAST);
        sheet.due("one", x.keep(), 1);
        x.day();
        sheet.due("two", x.keep(), 2);
        x.day();
        sheet.due("three", x.keep(), FULL);
        sheet.due("again", x.keep(), FULL);
        sheet.due("how many", x.count(7), 2);
        sheet.due("days stay", x.count(3), 2);
        sheet.due("to undo stays", x.count(6), 2);
        sheet.due("the second", x.back(), 1);
        sheet.due("as it was", x.count(3), 1);
        sheet.due("room again", x.keep(), 2);
        sheet.due("no more", x.keep(), FULL);
        sheet.due("the second", x.back(), 1);
        sheet.due("the first", x.back(), 0);
        sheet.due("as it was", x.count(3), 0);
    }

    private static void backToTheLastKept() {
        sheet.sentence("As KEPT last: how many are left; nothing is UNDONE then. NO.");
        LastCallersWord x = Sheet.laid(LEAST);
        sheet.due("none", x.back(), NO);
        x.day();
        sheet.due("none still", x.back(), NO);
        sheet.due("to undo stays", x.count(6), 1);
        x.keep();
        sheet.due("to undo stays by keep", x.count(6), 1);
        x.call(1, 0);
        sheet.due("undo goes on ahead of what is kept", x.undo(), 1);
        sheet.due("and on", x.undo(), 0);
        sheet.due("kept stays", x.count(7), 1);
        x.call(1, 0);
        sheet.due("back", x.back(), 0);
        sheet.due("days as kept", x.count(3), 1);
        sheet.due("caller as kept", x.door(0, 1), 0);
        sheet.due("nothing to undo", x.count(6), 0);
        sheet.due("undo", x.undo(), NO);
        sheet.due("none left", x.back(), NO);
        sheet.due("days stay", x.count(3), 1);
    }

    private static void keptWithLikingsAndTries() {
        sheet.sentence("KEPT is all as it stands (likings too)");
        LastCallersWord x = Sheet.laid("n3;p1011;p2000;p2000;d1,1;d2,2;b2;");
        x.alter(2, 2, 7);
        x.call(0, 1);
        x.tries(2, 0);
        x.tries(0, 0);
        x.tries(0, 0);
        x.day();
        x.tries(2, 0);
        x.tries(0, 0);
        x.tries(0, 0);
        x.keep();
        x.day();
        x.call(2, 1);
        x.alter(2, 2, 1);
        x.back();
        sheet.due("liking", x.likes(2, 2), 7);
        sheet.due("caller", x.door(1, 1), 0);
        sheet.due("knowers", x.door(1, 2), 0b111);
        sheet.due("barred", x.door(0, 3), 0b001);
        sheet.due("days", x.count(3), 1);
        sheet.due("tried once, and once more", x.tries(2, 0), 0);
        sheet.due("barred by both", x.door(0, 3), 0b101);
    }

    private static void keptWithoutSeen() {
        sheet.sentence("KEPT is all as it stands (likings too), but what is SEEN: 2 at most.");
        LastCallersWord x = Sheet.laid(LEAST);
        x.seen(0, 0, 0);
        x.keep();
        x.seen(1, 0, 1);
        x.keep();
        x.forget();
        x.back();
        sheet.due("what was forgotten stays so", x.count(5), 0);
        x.seen(1, 0, 1);
        x.seen(1, 0, 1);
        x.back();
        sheet.due("what is SEEN since stays", x.count(5), 2);
        sheet.due("and is looked at", x.called(0), 0b10);
    }

    private static void counts() {
        sheet.sentence("How many: 0 PERSONS, 1 DOORS, 2 WORDS, 3 DAYS, 4 B, 5 SEEN, 6 that can be UNDONE, 7 KEPT, 8 letters of THE TEXT. BAD.");
        LastCallersWord x = Sheet.laid("n3;p0000;p0000;p0000;d0,0;d0,0;w1;w1;w1;w1;b9;");
        x.day();
        x.day();
        x.call(0, 0);
        for (int many = 0; many < 5; many++) {
            x.seen(0, 0, 1);
        }
        x.keep();
        int[] counts = {3, 2, 4, 2, 9, 5, 3, 1, 46};
        for (int what = 0; what < counts.length; what++) {
            sheet.due("what " + what, x.count(what), counts[what]);
        }
        sheet.due("what -1", x.count(-1), BAD);
        sheet.due("what 9", x.count(9), BAD);
    }
}
