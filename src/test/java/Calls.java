/** The calls of the face by name, and which numbers are told for each of their parameters. */
final class Calls {
    static final String[] NAMES = {
        "write", "wipe", "fault", "lay", "person", "likes", "door", "call", "tries", "day", "alter", "undo",
        "shutOut", "knowsBy", "when", "lets", "keeps", "allIn", "friend", "seen", "forget", "called",
        "guess", "mean", "inTime", "likely", "street", "keep", "back", "count"};

    /** Those that only ask. */
    static final String[] QUESTIONS = {
        "fault", "person", "likes", "door", "shutOut", "knowsBy", "when", "lets", "keeps", "allIn", "friend", "called",
        "guess", "mean", "inTime", "likely", "street", "count"};

    private Calls() {
    }

    static int answer(LastCallersWord x, String name, int a, int b, int c) {
        switch (name) {
            case "write": return x.write(a);
            case "wipe": return x.wipe();
            case "fault": return x.fault();
            case "lay": return x.lay();
            case "person": return x.person(a, b);
            case "likes": return x.likes(a, b);
            case "door": return x.door(a, b);
            case "call": return x.call(a, b);
            case "tries": return x.tries(a, b);
            case "day": return x.day();
            case "alter": return x.alter(a, b, c);
            case "undo": return x.undo();
            case "shutOut": return x.shutOut();
            case "knowsBy": return x.knowsBy(a, b);
            case "when": return x.when(a, b);
            case "lets": return x.lets(a, b);
            case "keeps": return x.keeps(a, b, c);
            case "allIn": return x.allIn(a);
            case "friend": return x.friend(a, b);
            case "seen": return x.seen(a, b, c);
            case "forget": return x.forget();
            case "called": return x.called(a);
            case "guess": return x.guess(a);
            case "mean": return x.mean(a);
            case "inTime": return x.inTime(a);
            case "likely": return x.likely(a, b, c);
            case "street": return x.street(a, b, c);
            case "keep": return x.keep();
            case "back": return x.back();
            case "count": return x.count(a);
            default: throw new IllegalArgumentException(name);
        }
    }

    /** For each parameter the first and the last number that is told. */
    static int[][] told(String name, int persons, int doors) {
        int[] person = {0, persons - 1}, door = {0, doors - 1}, part = {0, 1};
        switch (name) {
            case "write": return new int[][] {{32, 126}};
            case "person": case "friend": return new int[][] {person, part};
            case "likes": return new int[][] {person, person};
            case "door": return new int[][] {door, {0, 3}};
            case "call": case "tries": case "when": return new int[][] {person, door};
            case "alter": return new int[][] {person, person, {0, 9}};
            case "knowsBy": return new int[][] {door, {0, 20}};
            case "lets": return new int[][] {door, {0, 5}};
            case "keeps": return new int[][] {person, door, {0, 5}};
            case "allIn": return new int[][] {{-1, doors - 1}};
            case "seen": return new int[][] {person, door, part};
            case "called": return new int[][] {door};
            case "guess": return new int[][] {{0, Integer.MAX_VALUE}};
            case "mean": case "inTime": return new int[][] {part};
            case "likely": return new int[][] {door, {0, 3}, part};
            case "street": return new int[][] {{0, 9999}, {1, 60}, part};
            case "count": return new int[][] {{0, 8}};
            default: return new int[][] {};
        }
    }
}
