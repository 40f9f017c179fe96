import java.io.IOException;

/** The edges of who knows, who is shut out and whose call helps: promises 14 to 20. */
public final class KnowingEdgeTests {
    private static final int BAD = -1, NONE = -4;

    /**
     * 0 is TRUE and tells 1 alone; 1 is a GOSSIP and likes 2, 3, .. 7 less and less: he calls, and 2, 3 and 4 know at
     * once, 5 behind a day, 6 behind two, 7 behind three; 0 calls, and 2 knows behind a day, .. 7 behind six.
     */
    private static final String CHAIN = "n8;p309000000;p100987654;" + "p200000000;".repeat(6) + "d6,0;d7,0;";

    private static Sheet sheet;

    public static void main(String[] args) throws IOException {
        sheet = new Sheet("KnowingEdgeTests");
        shutOutBits();
        knownNowAndLater();
        knownFirst();
        knownNever();
        letIn();
        keptOut();
        allAreInAlready();
        allAreShutOut();
        theLowestCaller();
        doorsOfAllIn();
        bestFriends();
        himselfIsNotLookedAt();
        reaches();
        sheet.end();
    }

    private static void shutOutBits() {
        sheet.sentence("SHUT OUT: HOSTS (bits by DOORS) who do not KNOW the WORD of that DOOR.");
        LastCallersWord x = Sheet.laid("n2;p000;p000;d0,1;d1,0;d0,1;d1,0;d0,1;");
        int bits = 31;
        sheet.due("all", x.shutOut(), bits);
        for (int d = 0; d < 5; d++) {
            x.call(x.door(d, 0), d);
            bits &= ~(1 << d);
            sheet.due("all but up to " + d, x.shutOut(), bits);
        }
        for (int d = 4; d >= 0; d--) {
            x.call(1 - x.door(d, 0), d);
            bits |= 1 << d;
            sheet.due("from " + d, x.shutOut(), bits);
        }
        sheet.due("one door", Sheet.laid("n2;p000;p000;d0,1;").shutOut(), 1);
        sheet.due("one door, in", Sheet.laid("n2;p000;p000;d0,0;").shutOut(), 0);
    }

    /** 0 knows alone, and then likes 1 by 7, 2 by 6, .. 7 by 1: he tells one of them each day. */
    private static LastCallersWord oneByOne() {
        LastCallersWord x = Sheet.laid("n8;p190000000;" + "p200000000;".repeat(7) + "d7,0;d0,7;");
        for (int j = 1; j < 8; j++) {
            x.alter(0, j, 8 - j);
        }
        return x;
    }

    private static void knownNowAndLater() {
        sheet.sentence("KNOWS BY n (0 to 20) DAYS: who KNOWS that of a DOOR then (bits), if nobody calls.");
        LastCallersWord x = oneByOne();
        for (int n = 0; n <= 20; n++) {
            sheet.due("by " + n, x.knowsBy(0, n), n < 7 ? (2 << n) - 1 : 255);
            sheet.due("nobody tells, by " + n, x.knowsBy(1, n), 128);
        }
        sheet.due("by -1", x.knowsBy(0, -1), BAD);
        sheet.due("by 21", x.knowsBy(0, 21), BAD);
        sheet.due("now, still", x.door(0, 2), 1);
        sheet.due("no day went by", x.count(3), 0);
        for (int day = 1; day <= 7; day++) {
            x.day();
            sheet.due("so it comes on day " + day, x.door(0, 2), (2 << day) - 1);
        }
    }

    private static void knownFirst() {
        sheet.sentence("WHEN: behind how many DAYS (0 to 20) a PERSON KNOWS that of a DOOR first; none.");
        LastCallersWord x = oneByOne();
        for (int day = 0; day <= 7; day++) {
            for (int i = 0; i < 8; i++) {
                sheet.due(i + " from day " + day, x.when(i, 0), Math.max(0, i - day));
            }
            x.day();
        }
    }

    private static void knownNever() {
        sheet.sentence("WHEN. NONE; BAD.");
        LastCallersWord x = oneByOne();
        for (int i = 0; i < 7; i++) {
            sheet.due(i + " at 1", x.when(i, 1), NONE);
        }
        sheet.due("he who knows", x.when(7, 1), 0);
        sheet.due("i 8", x.when(8, 0), BAD);
        sheet.due("i -1", x.when(-1, 0), BAD);
        sheet.due("d 2", x.when(0, 2), BAD);
        sheet.due("d -1", x.when(0, -1), BAD);
        x.alter(0, 7, 0);
        sheet.due("whom nobody likes", x.when(7, 0), NONE);
        sheet.due("the one ahead of him", x.when(6, 0), 6);
    }

    private static void letIn() {
        sheet.sentence("LETS: PERSONS (bits) by whose call at a DOOR now its HOST would KNOW its WORD behind n (0 to 5) DAYS.");
        LastCallersWord x = Sheet.laid(CHAIN);
        int[] six = {0b01000000, 0b01000000, 0b01000010, 0b01000010, 0b01000010, 0b01000011};
        int[] seven = {0b10000000, 0b10000000, 0b10000000, 0b10000010, 0b10000010, 0b10000010};
        for (int n = 0; n <= 5; n++) {
            sheet.due("6 behind " + n, x.lets(0, n), six[n]);
            sheet.due("7 behind " + n, x.lets(1, n), seven[n]);
        }
        sheet.due("n -1", x.lets(0, -1), BAD);
        sheet.due("n 6", x.lets(0, 6), BAD);
        sheet.due("d 2", x.lets(2, 0), BAD);
        sheet.due("d -1", x.lets(-1, 0), BAD);
        x.call(1, 0);
        x.day();
        sheet.due("whoever called", x.lets(0, 1), 0b01000000);
        LastCallersWord all = Sheet.laid("n2;p009;p090;d0,1;");
        sheet.due("by all", all.lets(0, 0), 0b11);
    }

    private static void keptOut() {
        sheet.sentence("KEEPS: PERSONS (bits) by whose call at a DOOR now a PERSON would not KNOW it behind n (0 to 5) DAYS.");
        LastCallersWord x = Sheet.laid(CHAIN);
        int[] six = {0b10111111, 0b10111111, 0b10111101, 0b10111101, 0b10111101, 0b10111100};
        int[] seven = {0b01111111, 0b01111111, 0b01111111, 0b01111101, 0b01111101, 0b01111101};
        for (int n = 0; n <= 5; n++) {
            for (int d = 0; d < 2; d++) {
                sheet.due("6 behind " + n, x.keeps(6, d, n), six[n]);
                sheet.due("7 behind " + n, x.keeps(7, d, n), seven[n]);
                sheet.due("0 behind " + n, x.keeps(0, d, n), 0b11111110);
                sheet.due("1 behind " + n, x.keeps(1, d, n), 0b11111100);
            }
        }
        sheet.due("n -1", x.keeps(0, 0, -1), BAD);
        sheet.due("n 6", x.keeps(0, 0, 6), BAD);
        sheet.due("i 8", x.keeps(8, 0, 0), BAD);
        sheet.due("d 2", x.keeps(0, 2, 0), BAD);
        LastCallersWord all = Sheet.laid("n2;p009;p090;d0,1;");
        sheet.due("by nobody", all.keeps(0, 0, 0), 0);
    }

    private static void allAreInAlready() {
        sheet.sentence("ALL IN: the fewest calls now, each by any PERSON, by which no HOST is SHUT OUT: how many");
        LastCallersWord x = Sheet.laid("n2;p000;p000;d0,0;d1,1;");
        sheet.due("no call", x.allIn(-1), 0);
        sheet.due("at 0", x.allIn(0), NONE);
        sheet.due("at 1", x.allIn(1), NONE);
        x.call(0, 1);
        sheet.due("one call", x.allIn(-1), 1);
        sheet.due("at 0 still", x.allIn(0), NONE);
        sheet.due("at 1", x.allIn(1), 1);
    }

    private static void allAreShutOut() {
        sheet.sentence("ALL IN: the fewest calls now, each by any PERSON, by which no HOST is SHUT OUT: how many");
        LastCallersWord x = Sheet.laid("n2;p000;p000;d0,1;d0,1;d0,1;d0,1;d0,1;");
        for (int in = 0; in < 5; in++) {
            sheet.due("calls", x.allIn(-1), 5 - in);
            for (int d = 0; d < 5; d++) {
                sheet.due("at " + d, x.allIn(d), d < in ? NONE : 0);
            }
            x.call(0, in);
        }
        sheet.due("no call", x.allIn(-1), 0);
    }

    private static void theLowestCaller() {
        sheet.sentence("by whom at a DOOR (of several the lowest); none (nobody has to call there).");
        LastCallersWord x = Sheet.laid("n8;" + "p200000000;".repeat(3) + "p300000009;p200000000;p300000009;"
            + "p200000000;p200000000;d7,0;d6,0;d0,1;");
        sheet.due("3 and 5 and 7 could", x.lets(0, 0), 0b10101000);
        sheet.due("3", x.allIn(0), 3);
        sheet.due("the HOST alone", x.allIn(1), 6);
        sheet.due("0", x.allIn(2), 0);
        x.alter(3, 7, 7);
        sheet.due("5", x.allIn(0), 5);
        x.alter(5, 7, 7);
        sheet.due("the HOST, the last of all", x.allIn(0), 7);
        sheet.due("how many", x.allIn(-1), 3);
        LastCallersWord later = Sheet.laid(CHAIN + "d5,0;");
        sheet.due("1 would let him in behind two DAYS", later.allIn(0), 6);
        sheet.due("behind three", later.allIn(1), 7);
        sheet.due("behind one", later.allIn(2), 5);
    }

    private static void doorsOfAllIn() {
        sheet.sentence("ALL IN: how many (d = -1), by whom at DOOR d. NONE; BAD.");
        LastCallersWord one = Sheet.laid("n2;p000;p000;d0,1;");
        sheet.due("d 0", one.allIn(0), 0);
        sheet.due("d 1", one.allIn(1), BAD);
        sheet.due("d -2", one.allIn(-2), BAD);
        LastCallersWord five = Sheet.laid("n2;p000;p000;d0,1;d0,1;d0,1;d0,1;d0,0;");
        sheet.due("d 4", five.allIn(4), NONE);
        sheet.due("d 5", five.allIn(5), BAD);
        sheet.due("d -2", five.allIn(-2), BAD);
        sheet.due("d least", five.allIn(Integer.MIN_VALUE), BAD);
        sheet.due("d most", five.allIn(Integer.MAX_VALUE), BAD);
    }

    private static void bestFriends() {
        sheet.sentence("BEST FRIEND: to whom a PERSON is dearest: who likes him most, of several the lowest; how much");
        LastCallersWord none = Sheet.laid("n8;" + "p000000000;".repeat(8) + "d0,0;");
        LastCallersWord most = Sheet.laid("n8;" + "p099999999;".repeat(8) + "d0,0;");
        for (int i = 0; i < 8; i++) {
            sheet.due("who, of all by 0", none.friend(i, 0), i == 0 ? 1 : 0);
            sheet.due("how much", none.friend(i, 1), 0);
            sheet.due("who, of all by 9", most.friend(i, 0), i == 0 ? 1 : 0);
            sheet.due("how much", most.friend(i, 1), 9);
        }
        none.alter(7, 0, 1);
        sheet.due("the last by 1", none.friend(0, 0), 7);
        sheet.due("how much", none.friend(0, 1), 1);
        none.alter(6, 0, 1);
        sheet.due("of two the lowest", none.friend(0, 0), 6);
        none.alter(7, 0, 2);
        sheet.due("more", none.friend(0, 0), 7);
        none.alter(0, 6, 9);
        sheet.due("how he likes them does not count", none.friend(0, 0), 7);
    }

    private static void himselfIsNotLookedAt() {
        sheet.sentence("how much (himself is not looked at).");
        LastCallersWord x = Sheet.laid("n2;p090;p009;d0,0;");
        sheet.due("who, of 0", x.friend(0, 0), 1);
        sheet.due("how much", x.friend(0, 1), 0);
        sheet.due("who, of 1", x.friend(1, 0), 0);
        sheet.due("how much", x.friend(1, 1), 0);
        x.alter(0, 1, 9);
        sheet.due("how much", x.friend(1, 1), 9);
        sheet.due("what 2", x.friend(0, 2), BAD);
        sheet.due("i 2", x.friend(2, 0), BAD);
    }

    private static void reaches() {
        sheet.sentence("REACH of a PERSON: how many others he would tell, were he to call now.");
        LastCallersWord x = Sheet.laid("n8;p099999999;p199999999;p299999999;p399999999;" + "p000000000;".repeat(4) + "d0,0;");
        int[] reach = {2, 3, 0, 7, 0, 0, 0, 0};
        for (int i = 0; i < 8; i++) {
            sheet.due("reach of " + i, x.person(i, 1), reach[i]);
        }
        for (int j = 0; j < 8; j++) {
            x.alter(3, j, 7);
            sheet.due("of the TRUE one", x.person(3, 1), j < 3 ? 6 - j : 7 - j);
        }
        for (int j = 0; j < 8; j++) {
            x.alter(4, j, 1);
            int liked = j < 4 ? j + 1 : j;
            sheet.due("of the PLAIN one", x.person(4, 1), Math.min(2, liked));
        }
        sheet.due("nobody called", x.door(0, 1), 0);
        sheet.due("what 2", x.person(0, 2), BAD);
        sheet.due("i 8", x.person(8, 1), BAD);
    }
}
