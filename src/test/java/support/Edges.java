import java.io.IOException;
import java.io.UncheckedIOException;
import java.nio.file.Files;
import java.nio.file.Path;

/** Answers that are due at the edges that the document names, under its own words. */
final class Edges extends Check {
    static final int LOW = Integer.MIN_VALUE;
    static final int HIGH = Integer.MAX_VALUE;

    /** What is done to an object. */
    interface Act {
        void on(HiredShades x);
    }

    private final String document;
    private String words = "";
    private int countAtWords = -1;

    Edges(String name) {
        super(name);
        document = document();
    }

    /** The document with one blank wherever it has some. */
    static String document() {
        try {
            return Files.readString(Path.of("../shared/DOC.md")).replaceAll("\\s+", " ");
        } catch (IOException e) {
            throw new UncheckedIOException(e);
        }
    }

    /** The words of the document by which the next answers are due: SentencesTest looks for them. */
    void says(String told) {
        closeWords();
        words = told;
        super.due("the document says: " + told, document.contains(told) ? 1L : 0L, 1L);
        countAtWords = count();
    }

    private void closeWords() {
        if (countAtWords == count()) {
            super.due("answers due by: " + words, 0L, 1L);
        }
    }

    @Override
    void due(String call, long got, long want) {
        super.due("'" + words + "' | " + call, got, want);
    }

    @Override
    void end() {
        closeWords();
        super.end();
    }

    /** An act that is refused leaves an object as one on which it was not tried. */
    void nothingDone(String call, Act ahead, Act refused) {
        String tried = Probe.ofAll(made(ahead, refused));
        String untried = Probe.ofAll(made(ahead, x -> { }));
        due(call + " does nothing: " + tried + " / " + untried, tried.equals(untried), true);
    }

    /** As nothingDone(), but the tape and the FAULT of the latest guild() may be others. */
    void allStays(String call, Act ahead, Act refused) {
        String tried = Probe.ofState(made(ahead, refused));
        String untried = Probe.ofState(made(ahead, x -> { }));
        due(call + " leaves all: " + tried + " / " + untried, tried.equals(untried), true);
    }

    private static HiredShades made(Act ahead, Act then) {
        HiredShades x = new HiredShades();
        ahead.on(x);
        then.on(x);
        return x;
    }
}
