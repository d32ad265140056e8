import java.io.IOException;
import java.nio.file.Files;
import java.nio.file.Path;
import java.util.function.ToIntFunction;

/** What the tests of boundary cases share: each test begins with the sentence of the document that it holds to. */
abstract class Boundaries {
    static final int BAD = -2, STATE = -3, FULL = -4, NONE = -1;
    static final int MIN = Integer.MIN_VALUE, MAX = Integer.MAX_VALUE;
    static final int WHITE = 0xFFFFFF;
    static final int MAX_COLOR = 16777215;

    private static final String DOCUMENT = document();
    private static String sentence = "";
    private static int sentences = 0;
    private static int wrong = 0;

    private static String document() {
        try {
            return Files.readString(Path.of("..", "shared", "DOC.md"));
        } catch (IOException e) {
            System.out.println("the document is not there: the sentences are not compared with it");
            return null;
        }
    }

    /** The part of the document about a promise; 0 stands for all that comes before promise 1. */
    private static String partOf(int promise) {
        int from = promise == 0 ? 0 : DOCUMENT.indexOf("## Promise " + promise + ":");
        int to = DOCUMENT.indexOf("\n## ", DOCUMENT.indexOf(promise == 0 ? "## Description" : "\n", from));
        return from < 0 || to < 0 ? "" : DOCUMENT.substring(from, to);
    }

    /** Begins the test of a sentence, which must stand in the document word by word. */
    static void sentence(int promise, String words) {
        sentence = (promise == 0 ? "description" : "promise " + promise) + ", \"" + words + "\"";
        sentences++;
        if (DOCUMENT != null && !partOf(promise).contains(words)) {
            wrong++;
            System.out.println(sentence + ": the document does not say this there");
        }
    }

    static void due(String call, long got, long want) {
        if (got != want) {
            wrong++;
            System.out.println(sentence + ": " + call + " answered " + got + ", due is " + want);
        }
    }

    /** A call that is refused with an error, and changes nothing. */
    static void refused(String call, PaletteBuilder x, int error, ToIntFunction<PaletteBuilder> action) {
        long before = x.digest();
        due(call, action.applyAsInt(x), error);
        due("digest() after " + call, x.digest(), before);
    }

    /** A call that is a change: it can be undone, and undoing it brings all back, the indices too. */
    static void change(String call, PaletteBuilder x, int answer, int indicesAfter, ToIntFunction<PaletteBuilder> action) {
        long before = x.digest();
        int changes = x.count(8);
        due(call, action.applyAsInt(x), answer);
        due("count(7) after " + call, x.count(7), indicesAfter);
        due("count(8) after " + call, x.count(8), changes + 1);
        due("undo() after " + call, x.undo(), changes);
        due("digest() after " + call + " and undo()", x.digest(), before);
    }

    static void end() {
        System.out.println(wrong == 0 ? "all answers are as due, for " + sentences + " sentences"
                : wrong + " answers are not as due");
        if (wrong != 0) {
            System.exit(1);
        }
    }

    static PaletteBuilder sized(int width, int height) {
        PaletteBuilder x = new PaletteBuilder();
        x.image(width, height);
        return x;
    }

    static PaletteBuilder plain(int width, int height, int color) {
        PaletteBuilder x = sized(width, height);
        x.paint(0, 0, width, height, color);
        return x;
    }

    /** An image of one row with these colors. */
    static PaletteBuilder row(int... colors) {
        PaletteBuilder x = sized(colors.length, 1);
        for (int i = 0; i < colors.length; i++) {
            x.paint(i, 0, 1, 1, colors[i]);
        }
        return x;
    }

    /** A square image with a blue from 0 to 255 at each pixel, in row-major order. */
    static PaletteBuilder allBlues() {
        PaletteBuilder x = sized(16, 16);
        for (int i = 0; i < 256; i++) {
            x.paint(i % 16, i / 16, 1, 1, i);
        }
        return x;
    }

    static PaletteBuilder with(PaletteBuilder x, int... colors) {
        for (int color : colors) {
            x.add(color, false);
        }
        return x;
    }

    static PaletteBuilder locked(PaletteBuilder x, int... entries) {
        for (int entry : entries) {
            x.lock(entry, true);
        }
        return x;
    }

    /** Adds entries with the colors 0, step, 2 * step and so on, until there are so many. */
    static PaletteBuilder filled(PaletteBuilder x, int entries, int step) {
        for (int e = x.count(4); e < entries; e++) {
            x.add(step * e, false);
        }
        return x;
    }

    static PaletteBuilder mapped(PaletteBuilder x, int method, int strength) {
        x.map(method, strength);
        return x;
    }

    /** Three pixels, the last one transparent, two entries, and indices; 7 changes can be undone. */
    static PaletteBuilder sample() {
        return mapped(with(row(10, 200, NONE), 0, 255), 0, 0);
    }

    static PaletteBuilder typed(PaletteBuilder x, String text) {
        for (int i = 0; i < text.length(); i++) {
            x.type(text.charAt(i));
        }
        return x;
    }

    static void pixels(String when, PaletteBuilder x, int... colors) {
        int width = x.count(0);
        due(when + ": number of pixels", x.count(0) * x.count(1), colors.length);
        for (int i = 0; i < colors.length; i++) {
            due(when + ": pixel(" + i % width + "," + i / width + ")", x.pixel(i % width, i / width), colors[i]);
        }
    }

    static void palette(String when, PaletteBuilder x, int... colors) {
        due(when + ": count(4)", x.count(4), colors.length);
        for (int e = 0; e < colors.length; e++) {
            due(when + ": entry(" + e + ",0)", x.entry(e, 0), colors[e]);
        }
    }

    static void locks(String when, PaletteBuilder x, int... locks) {
        for (int e = 0; e < locks.length; e++) {
            due(when + ": entry(" + e + ",1)", x.entry(e, 1), locks[e]);
        }
    }

    static void indices(String when, PaletteBuilder x, int... indices) {
        int width = x.count(0);
        for (int i = 0; i < indices.length; i++) {
            due(when + ": index(" + i % width + "," + i / width + ")", x.index(i % width, i / width), indices[i]);
        }
    }
}
