import java.io.IOException;
import java.util.ArrayList;
import java.util.List;
import java.util.function.Consumer;
import java.util.function.Supplier;

/** Which answer is due to a call that can't be, and that nothing has changed behind it: all promises. */
public final class RefusalTests {
    private static final int BAD = -1, NO = -2, FULL = -3, NONE = -4;
    private static final String STREET = "n3;p1099;p0900;p2000;d0,2;d1,2;w5;w7;b2;";

    /** The least and the largest street, the first one, one of many persons at one door, one of few at many. */
    private static final String[] STREETS = {
        "n2;p000;p000;d0,0;",
        "n8;p099999999;p199999999;p299999999;p399999999;p000000000;p100000000;p200000000;p300000000;"
            + "d0,7;d1,6;d2,5;d3,4;d4,3;w1;w1;w1;w1;w1;w1;",
        "n5;p003951;p149062;p258310;p370481;p026737;d0,3;d1,2;d2,2;d3,0;w20;w5;w9;b2;",
        "n8;p099999999;p199999999;p299999999;p399999999;p000000000;p100000000;p200000000;p300000000;d7,0;",
        "n2;p109;p390;d0,1;d1,0;d0,0;d1,1;d0,1;w60;b9;"};

    private static Sheet sheet;

    /** A call with what it is given. */
    private static final class Call {
        final String name;
        final int[] given = new int[3];

        Call(String name, int... numbers) {
            this.name = name;
            System.arraycopy(numbers, 0, given, 0, numbers.length);
        }

        int on(LastCallersWord x) {
            return Calls.answer(x, name, given[0], given[1], given[2]);
        }

        @Override
        public String toString() {
            return name + "(" + given[0] + ", " + given[1] + ", " + given[2] + ")";
        }
    }

    public static void main(String[] args) throws IOException {
        sheet = new Sheet("RefusalTests");
        lastToldAndFirstNot();
        badAheadOfAll();
        badChangesNothing();
        noChangesNothing();
        fullChangesNothing();
        noneChangesNothing();
        askingChangesNothing();
        sheet.end();
    }

    private static void lastToldAndFirstNot() {
        sheet.sentence("BAD: a number is none that is told (PERSONS, DOORS, WORDS: such as there are).");
        for (String street : STREETS) {
            LastCallersWord plan = Sheet.laid(street);
            for (String name : Calls.NAMES) {
                int[][] told = Calls.told(name, plan.count(0), plan.count(1));
                for (int side = 0; side <= 1; side++) {
                    edgesOf(Sheet.laid(street), name, told, side);
                }
            }
        }
    }

    /** Each number for each parameter, all others being the first told (side 0) or the last (side 1). */
    private static void edgesOf(LastCallersWord x, String name, int[][] told, int side) {
        for (int place = 0; place < told.length; place++) {
            Call call = new Call(name);
            for (int other = 0; other < told.length; other++) {
                call.given[other] = told[other][side];
            }
            for (int edge : told[place]) {
                call.given[place] = edge;
                sheet.notDue("told: " + call, call.on(x), BAD);
            }
            for (int bad : notTold(told[place][0], told[place][1])) {
                call.given[place] = bad;
                sheet.due("not told: " + call, call.on(x), BAD);
            }
        }
    }

    /** The first ones that aren't told, the farthest ones, and those that would be told if they were cut to fewer bits. */
    private static List<Integer> notTold(int first, int last) {
        int[] candidates = {first - 1, last + 1, Integer.MIN_VALUE, Integer.MAX_VALUE, first + 32, first + 64, first + 256,
            first - 256, first + 65536, first + (1 << 24), Integer.MIN_VALUE + first, Integer.MIN_VALUE + last};
        List<Integer> bad = new ArrayList<>();
        for (int number : candidates) {
            if (number < first || number > last) {
                bad.add(number);
            }
        }
        return bad;
    }

    private static void badAheadOfAll() {
        sheet.sentence("Of several the first; nothing changes then.");
        LastCallersWord x = Sheet.laid("n2;p000;p000;d0,0;b1;");
        sheet.due("mean(2), no WORDS", x.mean(2), BAD);
        sheet.due("inTime(-1), no WORDS", x.inTime(-1), BAD);
        sheet.due("guess(-1), no WORDS", x.guess(-1), BAD);
        x.tries(1, 0);
        sheet.due("BARRED, no such DOOR", x.tries(1, 1), BAD);
        sheet.due("no such PERSON where one is BARRED", x.tries(2, 0), BAD);
        sheet.due("BARRED", x.tries(1, 0), NO);
        for (int many = 0; many < 8; many++) {
            x.seen(0, 0, 1);
        }
        sheet.due("FULL, no such PERSON", x.seen(2, 0, 0), BAD);
        sheet.due("FULL, no such DOOR", x.seen(0, 1, 0), BAD);
        sheet.due("FULL, neither 0 nor 1", x.seen(0, 0, 2), BAD);
        sheet.due("FULL", x.seen(0, 0, 0), FULL);
        Sheet.writeInto(x, "x".repeat(200 - x.count(8)));
        sheet.due("FULL, no letter", x.write(31), BAD);
        sheet.due("FULL, no letter", x.write(127), BAD);
        sheet.due("FULL", x.write(32), FULL);
    }

    /** A street on which much has been done, all of which can be undone and gone back to. */
    private static LastCallersWord busy() {
        LastCallersWord x = Sheet.laid(STREET);
        x.seen(0, 0, 1);
        x.seen(2, 1, 0);
        x.alter(2, 0, 9);
        x.tries(1, 0);
        x.keep();
        x.call(0, 1);
        x.day();
        x.call(1, 0);
        x.tries(2, 0);
        x.keep();
        x.tries(2, 0);
        x.tries(0, 0);
        x.write('n');
        return x;
    }

    private static LastCallersWord idle() {
        return Sheet.laid(STREET);
    }

    private static LastCallersWord allSeen() {
        LastCallersWord x = busy();
        for (int many = 2; many < 8; many++) {
            x.seen(many % 3, 0, many % 2);
        }
        return x;
    }

    private static LastCallersWord allWritten() {
        LastCallersWord x = busy();
        Sheet.writeInto(x, "b".repeat(200 - x.count(8)));
        return x;
    }

    /** The call is answered so, and behind it all is as it is without it. */
    private static void changesNothing(Supplier<LastCallersWord> make, Call call, int want) {
        sheet.due(call.toString(), call.on(make.get()), want);
        sameBehind(make, call.toString(), call::on);
    }

    private static void sameBehind(Supplier<LastCallersWord> make, String what, Consumer<LastCallersWord> act) {
        Supplier<LastCallersWord> acted = () -> {
            LastCallersWord x = make.get();
            act.accept(x);
            return x;
        };
        sheet.dueText("what stands behind " + what, Probe.of(acted), Probe.of(make));
    }

    private static void badChangesNothing() {
        sheet.sentence("Of several the first; nothing changes then.");
        for (String name : Calls.NAMES) {
            int[][] told = Calls.told(name, 3, 2);
            for (int place = 0; place < told.length; place++) {
                for (int bad : notTold(told[place][0], told[place][1])) {
                    Call call = new Call(name);
                    for (int other = 0; other < told.length; other++) {
                        call.given[other] = told[other][1];
                    }
                    call.given[place] = bad;
                    changesNothing(RefusalTests::busy, call, BAD);
                    changesNothing(RefusalTests::idle, call, BAD);
                }
            }
        }
    }

    private static void noChangesNothing() {
        sheet.sentence("NO: not as things stand.");
        changesNothing(RefusalTests::idle, new Call("undo"), NO);
        changesNothing(RefusalTests::idle, new Call("back"), NO);
        changesNothing(RefusalTests::busy, new Call("tries", 2, 0), NO);
        changesNothing(RefusalTests::busy, new Call("lay"), NO);
        changesNothing(() -> rewritten("n2;p000;d0,0;"), new Call("lay"), NO);
        changesNothing(() -> rewritten("n2;p000;p000;w1;b1;"), new Call("lay"), NO);
        changesNothing(() -> rewritten("n8;p300000000;d7,7;w1;b9;x"), new Call("lay"), NO);
        changesNothing(() -> rewritten(""), new Call("lay"), NO);
        changesNothing(() -> {
            LastCallersWord x = idle();
            x.day();
            return x;
        }, new Call("back"), NO);
    }

    /** A busy street with another text, which is not laid. */
    private static LastCallersWord rewritten(String text) {
        LastCallersWord x = busy();
        x.wipe();
        Sheet.writeInto(x, text);
        return x;
    }

    private static void fullChangesNothing() {
        sheet.sentence("FULL. Of several the first; nothing changes then.");
        changesNothing(RefusalTests::busy, new Call("keep"), FULL);
        changesNothing(RefusalTests::allSeen, new Call("seen", 1, 1, 1), FULL);
        changesNothing(RefusalTests::allSeen, new Call("seen", 0, 0, 0), FULL);
        changesNothing(RefusalTests::allWritten, new Call("write", ';'), FULL);
        changesNothing(RefusalTests::allWritten, new Call("write", 126), FULL);
    }

    private static void noneChangesNothing() {
        sheet.sentence("NONE: there is none.");
        changesNothing(RefusalTests::idle, new Call("fault"), NONE);
        changesNothing(RefusalTests::idle, new Call("when", 0, 0), NONE);
        changesNothing(RefusalTests::busy, new Call("guess", 2), NONE);
        Supplier<LastCallersWord> wordless = () -> Sheet.laid("n2;p000;p000;d0,0;");
        changesNothing(wordless, new Call("allIn", 0), NONE);
        changesNothing(wordless, new Call("guess", 0), NONE);
        for (int part = 0; part <= 1; part++) {
            changesNothing(wordless, new Call("mean", part), NONE);
            changesNothing(wordless, new Call("inTime", part), NONE);
        }
    }

    private static void askingChangesNothing() {
        sheet.sentence("Nothing is promised beyond the answers and state changes described above");
        for (String name : Calls.QUESTIONS) {
            int[][] told = Calls.told(name, 3, 2);
            for (int side = 0; side <= 1; side++) {
                Call call = new Call(name);
                for (int place = 0; place < told.length; place++) {
                    call.given[place] = told[place][side];
                }
                sameBehind(RefusalTests::busy, call.toString(), call::on);
                sameBehind(RefusalTests::idle, call.toString(), call::on);
            }
        }
    }
}
