import java.io.IOException;
import java.nio.file.Files;
import java.nio.file.Path;

/** Holds answers against what is due, each under the sentence of the document that asks for it. */
final class Sheet {
    private static final Path DOCUMENT = Path.of("../shared/DOC.md");
    private static final long MOST_MILLISECONDS = 120_000;

    private final String name;
    private final String document;
    private volatile String sentence = "no sentence";
    private int sentences = 0;
    private int checks = 0;
    private int wrong = 0;

    Sheet(String name) throws IOException {
        this.name = name;
        document = inOneLine(Files.readString(DOCUMENT));
        watch();
    }

    /** A call that does not end is a fault as well: without this the test would wait for it for ever. */
    private void watch() {
        Thread watch = new Thread(() -> {
            try {
                Thread.sleep(MOST_MILLISECONDS);
            } catch (InterruptedException stopped) {
                return;
            }
            System.out.println(name + ", '" + sentence + "': a call does not end");
            Runtime.getRuntime().halt(1);
        });
        watch.setDaemon(true);
        watch.start();
    }

    private static String inOneLine(String text) {
        return text.replaceAll("\\s+", " ");
    }

    /** What follows is tested for this sentence; it has to stand in the document word for word. */
    void sentence(String quote) {
        sentence = quote;
        sentences++;
        if (!document.contains(inOneLine(quote))) {
            say("the document has no such words");
        }
    }

    void due(String what, int got, int want) {
        checks++;
        if (got != want) {
            say(what + " answered " + got + ", due is " + want);
        }
    }

    void dueText(String what, String got, String want) {
        checks++;
        if (!got.equals(want)) {
            say(what + " answered " + got + ", due is " + want);
        }
    }

    void notDue(String what, int got, int never) {
        checks++;
        if (got == never) {
            say(what + " answered " + got);
        }
    }

    private void say(String what) {
        wrong++;
        System.out.println(name + ", '" + sentence + "': " + what);
    }

    void end() {
        System.out.println(name + ": " + sentences + " sentences, " + checks + " answers, " + wrong + " not as due");
        if (wrong != 0) {
            System.exit(1);
        }
    }

    static LastCallersWord written(String text) {
        LastCallersWord x = new LastCallersWord();
        writeInto(x, text);
        return x;
    }

    static void writeInto(LastCallersWord x, String text) {
        for (char letter : text.toCharArray()) {
            x.write(letter);
        }
    }

    /** An object with this text laid; a text that can't be is a fault of the test itself. */
    static LastCallersWord laid(String text) {
        LastCallersWord x = written(text);
        if (x.lay() < 1) {
            throw new IllegalStateException("the test's own text is not laid: " + text);
        }
        return x;
    }
}
