import java.io.IOException;

/** The edges of calling, trying, days, likings and undoing: promises 6 to 13. */
public final class TellingEdgeTests {
    private static final int BAD = -1, NO = -2;

    /** Kinds 0, 1, 2, 3, 0, 1, 2, 3; all like all by 9, themselves as well. */
    private static final String ALL_BY_NINE = "n8;p099999999;p199999999;p299999999;p399999999;p099999999;p199999999;"
        + "p299999999;p399999999;";

    private static Sheet sheet;

    public static void main(String[] args) throws IOException {
        sheet = new Sheet("TellingEdgeTests");
        howManyAreTold();
        byMoreThanNothing();
        ofLikeOnesTheLowest();
        eightOrMore();
        nobodyElseKnows();
        atFirstAsLikingsAreTold();
        gossipsAlone();
        tellingByMoreThanNothing();
        tellingOfLikeOnesTheLowest();
        whoKnewAheadOfTheDay();
        whoDidNotKnow();
        dayOnAllDoors();
        dayForgives();
        barredByB();
        openingIsNotWrong();
        barredThereAlone();
        hostsCall();
        altered();
        lastEightUndone();
        eachKindUndone();
        nothingUndone();
        sheet.end();
    }

    /** By a call of i at door 0 these know its word, and he would tell as many others. */
    private static void toldBy(LastCallersWord x, int i, int knowers) {
        sheet.due("reach of " + i, x.person(i, 1), Integer.bitCount(knowers) - 1);
        sheet.due("call of " + i, x.call(i, 0), Integer.bitCount(knowers));
        sheet.due("who knows by " + i, x.door(0, 2), knowers);
        sheet.due("caller " + i, x.door(0, 1), i);
    }

    private static void howManyAreTold() {
        sheet.sentence("a PLAIN one to two, a GOSSIP to three, a SILENT one to nobody, a TRUE one to all whom he likes by 8 or more");
        LastCallersWord x = Sheet.laid(ALL_BY_NINE + "d0,0;");
        int[] knowers = {0b111, 0b1111, 0b100, 0b11111111, 0b10011, 0b100111, 0b1000000, 0b11111111};
        for (int i = 0; i < 8; i++) {
            toldBy(x, i, knowers[i]);
        }
        LastCallersWord least = Sheet.laid("n2;p009;p190;d0,0;");
        toldBy(least, 0, 0b11);
        toldBy(least, 1, 0b11);
    }

    private static void byMoreThanNothing() {
        sheet.sentence("(of all others whom he likes by more than 0; of like ones the lowest)");
        LastCallersWord x = Sheet.laid("n5;p190100;p010000;p100900;p009000;p000001;d0,0;");
        int[] knowers = {0b00101, 0b00011, 0b00100, 0b01010, 0b10000};
        for (int i = 0; i < 5; i++) {
            toldBy(x, i, knowers[i]);
        }
        x.alter(4, 1, 1);
        toldBy(x, 4, 0b10010);
        x.alter(4, 1, 0);
        toldBy(x, 4, 0b10000);
    }

    private static void ofLikeOnesTheLowest() {
        sheet.sentence("(of all others whom he likes by more than 0; of like ones the lowest)");
        LastCallersWord x = Sheet.laid("n6;p0030200;p0102300;p0450555;p1111000;p1123400;p1121219;d0,0;");
        int[] knowers = {0b001011, 0b001110, 0b001110, 0b001111, 0b011110, 0b101011};
        for (int i = 0; i < 6; i++) {
            toldBy(x, i, knowers[i]);
        }
    }

    private static void eightOrMore() {
        sheet.sentence("a TRUE one to all whom he likes by 8 or more");
        LastCallersWord x = Sheet.laid("n5;p377777;p378987;p398897;p377798;p379870;d0,0;");
        int[] knowers = {0b00001, 0b01110, 0b01111, 0b11000, 0b10110};
        for (int i = 0; i < 5; i++) {
            toldBy(x, i, knowers[i]);
        }
    }

    private static void nobodyElseKnows() {
        sheet.sentence("He and these KNOW it, nobody else.");
        LastCallersWord x = Sheet.laid(ALL_BY_NINE + "d0,3;d0,3;");
        sheet.due("all know", x.door(0, 2), 255);
        sheet.due("call of a SILENT one", x.call(6, 0), 1);
        sheet.due("he alone", x.door(0, 2), 1 << 6);
        sheet.due("the former caller can't come in", x.tries(3, 0), 0);
        sheet.due("the caller can", x.tries(6, 0), 1);
        sheet.due("at the other door all know", x.door(1, 2), 255);
        sheet.due("whose caller stays", x.door(1, 1), 3);
    }

    private static void atFirstAsLikingsAreTold() {
        sheet.sentence("So it is at first by the latest CALLERS (as likings are told).");
        LastCallersWord x = Sheet.laid("n3;p0090;p0000;p0000;d0,0;");
        sheet.due("0 told 1", x.door(0, 2), 0b011);
        x.alter(0, 2, 9);
        x.alter(0, 1, 0);
        sheet.due("altering tells nobody", x.door(0, 2), 0b011);
        x.lay();
        sheet.due("as told", x.door(0, 2), 0b011);
        sheet.due("likings as told", x.likes(0, 1), 9);
    }

    private static void gossipsAlone() {
        sheet.sentence("By a DAY each GOSSIP who KNEW the WORD of a DOOR ahead of it tells it to the one whom he likes most of those who did not");
        int[] behind = {0b1001, 0b1011, 0b1001, 0b1001};
        for (int kind = 0; kind <= 3; kind++) {
            LastCallersWord x = Sheet.laid("p" + kind + "0999;p20000;p20000;p38000;d0,3;");
            sheet.due("kind " + kind + " ahead", x.door(0, 2), 0b1001);
            sheet.due("by a day", x.knowsBy(0, 1), behind[kind]);
            x.day();
            sheet.due("kind " + kind, x.door(0, 2), behind[kind]);
        }
    }

    private static void tellingByMoreThanNothing() {
        sheet.sentence("(by more than 0; of like ones the lowest)");
        LastCallersWord x = Sheet.laid("p10100;p20000;p20000;p38000;d0,3;");
        x.day();
        sheet.due("whom he likes by 1", x.door(0, 2), 0b1011);
        x.day();
        sheet.due("whom he likes by 0", x.door(0, 2), 0b1011);
        x.alter(0, 2, 1);
        x.day();
        sheet.due("whom he likes by 1 now", x.door(0, 2), 0b1111);
        sheet.due("all know", x.day(), 4);
        sheet.due("still", x.door(0, 2), 0b1111);
    }

    private static void tellingOfLikeOnesTheLowest() {
        sheet.sentence("(by more than 0; of like ones the lowest)");
        LastCallersWord x = Sheet.laid("n6;p1955569;p2000000;p2000000;p2000000;p2000000;p3800000;d0,5;");
        int[] knowers = {0b100001, 0b110001, 0b110011, 0b110111, 0b111111, 0b111111};
        for (int days = 0; days < knowers.length; days++) {
            sheet.due("behind " + days, x.door(0, 2), knowers[days]);
            x.day();
        }
    }

    private static void whoKnewAheadOfTheDay() {
        sheet.sentence("each GOSSIP who KNEW the WORD of a DOOR ahead of it");
        LastCallersWord up = Sheet.laid("p10900;p10090;p20000;p38000;d0,3;");
        int[] upwards = {0b1001, 0b1011, 0b1111};
        LastCallersWord down = Sheet.laid("p30008;p20000;p10900;p10090;d0,0;");
        int[] downwards = {0b1001, 0b1101, 0b1111};
        for (int days = 0; days < 3; days++) {
            sheet.due("upwards behind " + days, up.door(0, 2), upwards[days]);
            sheet.due("downwards behind " + days, down.door(0, 2), downwards[days]);
            up.day();
            down.day();
        }
    }

    private static void whoDidNotKnow() {
        sheet.sentence("tells it to the one whom he likes most of those who did not");
        LastCallersWord x = Sheet.laid("n5;p100980;p100980;p200000;p200000;p388000;d0,4;");
        int[] knowers = {0b10011, 0b10111, 0b11111, 0b11111};
        for (int days = 0; days < knowers.length; days++) {
            sheet.due("both tell the same, behind " + days, x.door(0, 2), knowers[days]);
            x.day();
        }
    }

    private static void dayOnAllDoors() {
        sheet.sentence("of like ones the lowest), on all DOORS; and nobody is BARRED any more, nor has tried wrongly.");
        LastCallersWord x = Sheet.laid("p10900;p10090;p20000;p38000;d0,3;d0,0;d0,1;d0,2;d0,3;");
        int[] ahead = {0b1001, 0b0011, 0b0110, 0b0100, 0b1001};
        int[] behind = {0b1011, 0b0111, 0b0110, 0b0100, 0b1011};
        for (int d = 0; d < 5; d++) {
            sheet.due("ahead at " + d, x.door(d, 2), ahead[d]);
        }
        x.day();
        for (int d = 0; d < 5; d++) {
            sheet.due("behind at " + d, x.door(d, 2), behind[d]);
        }
    }

    private static void dayForgives() {
        sheet.sentence("and nobody is BARRED any more, nor has tried wrongly.");
        LastCallersWord x = Sheet.laid("n8;" + "p200000000;".repeat(8) + "d0,0;d0,0;d0,0;d0,0;d0,0;b2;");
        for (int d = 0; d < 5; d += 4) {
            x.tries(7, d);
            x.tries(7, d);
            x.tries(1, d);
            sheet.due("barred at " + d, x.door(d, 3), 1 << 7);
        }
        x.day();
        for (int d = 0; d < 5; d += 4) {
            sheet.due("barred no more at " + d, x.door(d, 3), 0);
            sheet.due("1 tries once", x.tries(1, d), 0);
            sheet.due("and is not barred", x.door(d, 3), 0);
            sheet.due("7 tries once", x.tries(7, d), 0);
            sheet.due("and is not barred", x.door(d, 3), 0);
            sheet.due("1 tries twice", x.tries(1, d), 0);
            sheet.due("and is barred", x.door(d, 3), 1 << 1);
        }
    }

    private static void barredByB() {
        sheet.sentence("else that is once more wrongly, BARRED is who has B times.");
        String[] limits = {"b1;", "b2;", "", "b8;", "b9;"};
        int[] times = {1, 2, 3, 8, 9};
        for (int street = 0; street < limits.length; street++) {
            LastCallersWord x = Sheet.laid("n2;p000;p000;d0,0;" + limits[street]);
            for (int time = 1; time <= times[street]; time++) {
                sheet.due("not barred ahead of " + time, x.door(0, 3), 0);
                sheet.due("time " + time + " of " + times[street], x.tries(1, 0), 0);
            }
            sheet.due("barred", x.door(0, 3), 0b10);
            sheet.due("one more", x.tries(1, 0), NO);
            sheet.due("again", x.tries(1, 0), NO);
            x.undo();
            sheet.due("undone", x.door(0, 3), 0);
            sheet.due("the last once more", x.tries(1, 0), 0);
            sheet.due("barred again", x.tries(1, 0), NO);
        }
    }

    private static void openingIsNotWrong() {
        sheet.sentence("Who is not BARRED can TRY a DOOR: it opens, if he KNOWS its WORD");
        LastCallersWord x = Sheet.laid("n2;p000;p000;d0,0;b2;");
        for (int time = 0; time < 12; time++) {
            sheet.due("opens", x.tries(0, 0), 1);
        }
        sheet.due("not barred", x.door(0, 3), 0);
        sheet.due("wrong", x.tries(1, 0), 0);
        x.call(1, 0);
        sheet.due("opens", x.tries(1, 0), 1);
        sheet.due("wrong for him who called first", x.tries(0, 0), 0);
        x.call(0, 0);
        sheet.due("wrong a second time", x.tries(1, 0), 0);
        sheet.due("barred", x.door(0, 3), 0b10);
        x.call(1, 0);
        sheet.due("barred, though he KNOWS it and called himself", x.tries(1, 0), NO);
        sheet.due("wrong a second time", x.tries(0, 0), 0);
        sheet.due("both", x.door(0, 3), 0b11);
    }

    private static void barredThereAlone() {
        sheet.sentence("who tries B (1 to 9) times wrongly at a DOOR is BARRED there");
        LastCallersWord x = Sheet.laid("n8;" + "p200000000;".repeat(8) + "d0,0;d0,0;d0,0;d0,0;d0,0;b1;");
        sheet.due("7 at 0", x.tries(7, 0), 0);
        sheet.due("1 at 4", x.tries(1, 4), 0);
        int[] barred = {1 << 7, 0, 0, 0, 1 << 1};
        for (int d = 0; d < 5; d++) {
            sheet.due("barred at " + d, x.door(d, 3), barred[d]);
        }
        sheet.due("7 at 4", x.tries(7, 4), 0);
        sheet.due("1 at 4", x.tries(1, 4), NO);
        sheet.due("1 at 0", x.tries(1, 0), 0);
        sheet.due("7 at 0", x.tries(7, 0), NO);
    }

    private static void hostsCall() {
        sheet.sentence("A HOST calls at his own DOOR as any other does.");
        LastCallersWord x = Sheet.laid("n3;p0000;p0900;p2000;d2,1;d0,0;");
        sheet.due("shut out", x.shutOut(), 0b01);
        sheet.due("a SILENT HOST", x.call(2, 0), 1);
        sheet.due("he alone knows", x.door(0, 2), 0b100);
        sheet.due("caller", x.door(0, 1), 2);
        sheet.due("host", x.door(0, 0), 2);
        sheet.due("in", x.shutOut(), 0);
        sheet.due("again", x.call(2, 0), 1);
        sheet.due("undone can be", x.count(6), 2);
    }

    private static void altered() {
        sheet.sentence("A liking is altered: what it was. BAD (v: 0 to 9; i and j may be one).");
        LastCallersWord x = Sheet.laid("n2;p005;p050;d0,0;");
        sheet.due("to 9", x.alter(0, 1, 9), 5);
        sheet.due("to 0", x.alter(0, 1, 0), 9);
        sheet.due("to 0 again", x.alter(0, 1, 0), 0);
        sheet.due("himself", x.alter(1, 1, 9), 0);
        sheet.due("himself again", x.alter(1, 1, 1), 9);
        sheet.due("v -1", x.alter(0, 1, -1), BAD);
        sheet.due("v 10", x.alter(0, 1, 10), BAD);
        sheet.due("i 2", x.alter(2, 1, 1), BAD);
        sheet.due("j 2", x.alter(1, 2, 1), BAD);
        int[] likings = {0, 0, 5, 1};
        for (int pair = 0; pair < 4; pair++) {
            sheet.due("liking " + pair, x.likes(pair / 2, pair % 2), likings[pair]);
        }
        sheet.due("undone can be", x.count(6), 5);
    }

    private static void lastEightUndone() {
        sheet.sentence("UNDONE is the latest call, TRY, DAY, altering (the last 8 can be).");
        for (int days = 0; days <= 20; days++) {
            LastCallersWord x = new LastCallersWord();
            for (int day = 1; day <= days; day++) {
                sheet.due("day", x.day(), day);
            }
            int many = Math.min(days, 8);
            sheet.due("can be undone of " + days, x.count(6), many);
            for (int left = many - 1; left >= 0; left--) {
                sheet.due("undo, of " + days, x.undo(), left);
                sheet.due("left", x.count(6), left);
                sheet.due("days", x.count(3), days - many + left);
            }
            sheet.due("one more, of " + days, x.undo(), NO);
            sheet.due("days stay", x.count(3), days - many);
            sheet.due("a day behind it", x.day(), days - many + 1);
            sheet.due("can be undone", x.undo(), 0);
        }
    }

    private static void eachKindUndone() {
        sheet.sentence("UNDONE is the latest call, TRY, DAY, altering (the last 8 can be).");
        LastCallersWord x = Sheet.laid("n3;p1099;p2000;p2000;d1,1;b1;");
        x.call(0, 0);
        x.tries(0, 0);
        x.alter(0, 1, 0);
        x.call(2, 0);
        x.tries(1, 0);
        x.day();
        sheet.due("all six", x.count(6), 6);
        sheet.due("the day", x.undo(), 5);
        sheet.due("days", x.count(3), 0);
        sheet.due("barred as ahead of the day", x.door(0, 3), 0b010);
        sheet.due("the wrong try", x.undo(), 4);
        sheet.due("barred no more", x.door(0, 3), 0);
        sheet.due("the call", x.undo(), 3);
        sheet.due("caller", x.door(0, 1), 0);
        sheet.due("knowers", x.door(0, 2), 0b111);
        sheet.due("the altering", x.undo(), 2);
        sheet.due("liking", x.likes(0, 1), 9);
        sheet.due("the right try", x.undo(), 1);
        sheet.due("the first call", x.undo(), 0);
        sheet.due("caller", x.door(0, 1), 1);
        sheet.due("knowers", x.door(0, 2), 0b010);
    }

    private static void nothingUndone() {
        sheet.sentence("UNDONE: how many more can be. NO.");
        LastCallersWord x = Sheet.laid("n2;p000;p000;d0,0;b1;");
        sheet.due("at once", x.undo(), NO);
        x.tries(1, 0);
        x.tries(1, 0);
        x.call(2, 0);
        x.alter(0, 0, 10);
        x.seen(0, 0, 1);
        x.keep();
        x.write('n');
        x.wipe();
        sheet.due("only what was done, the one try", x.undo(), 0);
        sheet.due("no more", x.undo(), NO);
        sheet.due("what is SEEN stays", x.count(5), 1);
        sheet.due("what is KEPT stays", x.count(7), 1);
    }
}
