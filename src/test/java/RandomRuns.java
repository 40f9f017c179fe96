import java.util.Random;

/** Random runs of calls, each answered by the class and by the model. */
public final class RandomRuns {
    private static final int[] WILD = {Integer.MIN_VALUE, Integer.MAX_VALUE, -1, -2, 1 << 30, 32, 64, 255, 10000};

    private final Random random;
    private final LastCallersWord real = new LastCallersWord();
    private final Model model = new Model();
    private final StringBuilder log = new StringBuilder();

    private RandomRuns(long seed) {
        random = new Random(seed);
    }

    public static void main(String[] args) {
        int runs = args.length > 0 ? Integer.parseInt(args[0]) : 3000;
        int failed = 0;
        for (int seed = 0; seed < runs; seed++) {
            RandomRuns run = new RandomRuns(seed);
            String wrong = run.play();
            if (wrong != null) {
                failed++;
                if (failed <= 3) {
                    System.out.println("seed " + seed + ": " + wrong + "\n  behind " + run.log);
                }
            }
        }
        System.out.println("RandomRuns: " + (runs - failed) + " runs as the model answers, " + failed + " not");
        if (failed != 0) {
            System.exit(1);
        }
    }

    private String play() {
        int left = 512;
        if (random.nextInt(5) > 0) {
            String text = randomText();
            left -= text.length() + 1;
            for (char letter : text.toCharArray()) {
                String wrong = answer("write", letter, 0, 0);
                if (wrong != null) {
                    return wrong;
                }
            }
            String wrong = answer("lay", 0, 0, 0);
            if (wrong != null) {
                return wrong;
            }
        }
        for (int turn = 0; turn < left; turn++) {
            String wrong = randomCall();
            if (wrong != null) {
                return wrong;
            }
        }
        return null;
    }

    private String randomCall() {
        String name = Calls.NAMES[random.nextInt(Calls.NAMES.length)];
        if (random.nextInt(4) == 0) {
            name = Calls.NAMES[7 + random.nextInt(5)];
        }
        if (name.equals("lay") && random.nextInt(4) > 0) {
            name = "fault";
        }
        if (name.equals("forget") && random.nextInt(3) > 0) {
            name = "called";
        }
        switch (name) {
            case "write": return answer(name, pick("npdwb0123456789,; ~\u007f\u001f".charAt(random.nextInt(20))), 0, 0);
            case "likely": return answer(name, below(5), below(4), below(2));
            case "street": return answer(name, below(10000), 1 + below(60), below(2));
            case "knowsBy": return answer(name, below(5), below(21), 0);
            case "lets": return answer(name, below(5), below(6), 0);
            case "door": return answer(name, below(5), below(4), 0);
            case "keeps": return answer(name, below(8), below(5), below(6));
            case "alter": return answer(name, below(8), below(8), below(10));
            case "seen": return answer(name, below(8), below(5), below(2));
            case "allIn": return answer(name, below(6) - 1, 0, 0);
            case "person": case "friend": return answer(name, below(8), below(2), 0);
            case "tries": case "call": case "when": return answer(name, below(8), below(5), 0);
            case "mean": case "inTime": return answer(name, below(2), 0, 0);
            default: return answer(name, below(9), below(8), 0);
        }
    }

    private int below(int bound) {
        return random.nextInt(40) == 0 ? bound : pick(random.nextInt(bound));
    }

    private int pick(int usual) {
        return random.nextInt(60) == 0 ? WILD[random.nextInt(WILD.length)] : usual;
    }

    private String answer(String name, int a, int b, int c) {
        int got = Calls.answer(real, name, a, b, c);
        int due = ofModel(name, a, b, c);
        log.append(name).append('(').append(a).append(',').append(b).append(',').append(c).append(")=").append(got).append(' ');
        return got == due ? null : name + "(" + a + "," + b + "," + c + ") answered " + got + ", due is " + due;
    }

    private String randomText() {
        StringBuilder text = new StringBuilder();
        int n = 2 + random.nextInt(7);
        if (n != 4 || random.nextBoolean()) {
            if (random.nextInt(6) == 0) {
                text.append('n').append(2 + random.nextInt(7)).append(';');
            }
            text.append('n').append(random.nextInt(6) == 0 ? "0" : "").append(n).append(';');
        }
        int people = n, doors = 1 + random.nextInt(5), words = random.nextInt(7);
        int favoured = random.nextInt(5);
        int span = random.nextBoolean() ? 10 : 3;
        while (people + doors + words > 0) {
            int turn = random.nextInt(people + doors + words);
            if (turn < people) {
                people--;
                text.append('p').append(favoured < 4 && random.nextBoolean() ? favoured : random.nextInt(4));
                for (int j = 0; j < n; j++) {
                    text.append(random.nextInt(3) == 0 ? 0 : 9 - random.nextInt(span));
                }
            } else if (turn < people + doors) {
                doors--;
                text.append('d').append(random.nextInt(n)).append(',').append(random.nextInt(n));
            } else {
                words--;
                text.append('w').append(1 + random.nextInt(random.nextBoolean() ? 60 : 4));
            }
            text.append(';');
            if (random.nextInt(8) == 0) {
                text.append('b').append(1 + random.nextInt(9)).append(';');
            }
        }
        if (random.nextInt(4) == 0) {
            spoil(text);
        }
        return text.length() <= 200 ? text.toString() : text.substring(0, 200);
    }

    private void spoil(StringBuilder text) {
        int place = random.nextInt(text.length());
        char letter = "npdwb0123456789,; x".charAt(random.nextInt(19));
        switch (random.nextInt(3)) {
            case 0 -> text.deleteCharAt(place);
            case 1 -> text.insert(place, letter);
            default -> text.setCharAt(place, letter);
        }
    }

    private int ofModel(String name, int a, int b, int c) {
        switch (name) {
            case "write": return model.write(a);
            case "wipe": return model.wipe();
            case "fault": return model.fault();
            case "lay": return model.lay();
            case "person": return model.person(a, b);
            case "likes": return model.likes(a, b);
            case "door": return model.door(a, b);
            case "call": return model.call(a, b);
            case "tries": return model.tries(a, b);
            case "day": return model.day();
            case "alter": return model.alter(a, b, c);
            case "undo": return model.undo();
            case "shutOut": return model.shutOut();
            case "knowsBy": return model.knowsBy(a, b);
            case "when": return model.when(a, b);
            case "lets": return model.lets(a, b);
            case "keeps": return model.keeps(a, b, c);
            case "allIn": return model.allIn(a);
            case "friend": return model.friend(a, b);
            case "seen": return model.seen(a, b, c);
            case "forget": return model.forget();
            case "called": return model.called(a);
            case "guess": return model.guess(a);
            case "mean": return model.mean(a);
            case "inTime": return model.inTime(a);
            case "likely": return model.likely(a, b, c);
            case "street": return model.street(a, b, c);
            case "keep": return model.keep();
            case "back": return model.back();
            case "count": return model.count(a);
            default: throw new IllegalStateException(name);
        }
    }
}
