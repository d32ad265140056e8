/** The boundary cases of promises 31 to 38, sentence by sentence. */
public final class WhatIfBoundariesTest extends Boundaries {

    private static void bestErrors() {
        sentence(31, "Returns the best error; STATE if the palette is empty and there is an opaque pixel.");
        PaletteBuilder x = new PaletteBuilder();
        refused("bestError(), no entries", x, STATE, PaletteBuilder::bestError);
        x.paint(0, 0, 1, 1, NONE);
        due("bestError(), no entries, no opaque pixel", x.bestError(), 0);
        x.add(5, false);
        due("bestError(), no opaque pixel", x.bestError(), 0);
        x.paint(0, 0, 1, 1, 7);
        due("bestError(), one of each", x.bestError(), 4);
        x.remove(0);
        refused("bestError(), no entries", x, STATE, PaletteBuilder::bestError);
        x = plain(16, 16, NONE);
        x.paint(15, 15, 1, 1, 0);
        refused("bestError(), no entries, one opaque pixel of 256", x, STATE, PaletteBuilder::bestError);
        sentence(31, "Returns the best error of the palette.");
        x = with(plain(16, 16, WHITE), 0);
        due("bestError(), the greatest one of metric 0", x.bestError(), 256 * 195075);
        x.setMetric(1);
        due("bestError(), the greatest one of metric 1", x.bestError(), 256 * 585225);
        x.add(WHITE, false);
        due("bestError(), none is off", x.bestError(), 0);
    }

    private static void losses() {
        sentence(32, "Returns the increase; BAD; STATE if it is the only entry.");
        PaletteBuilder x = with(row(10, 20), 12);
        refused("loss(0), the only entry", x, STATE, b -> b.loss(0));
        for (int entry : new int[] {-1, 1, 2, 16, MIN, MAX}) {
            refused("loss(" + entry + "), one entry", x, BAD, b -> b.loss(entry));
        }
        x.add(20, false);
        due("loss(0), two entries", x.loss(0), 100 - 4);
        due("loss(1), two entries", x.loss(1), 64);
        PaletteBuilder two = x;
        for (int entry : new int[] {-1, 2, 16, MIN, MAX}) {
            refused("loss(" + entry + "), two entries", two, BAD, b -> b.loss(entry));
        }
        refused("loss(0), no entries", new PaletteBuilder(), BAD, b -> b.loss(0));
        x = filled(row(150), 16, 10);
        due("loss(15) of 16", x.loss(15), 100);
        due("loss(0) of 16, it has no pixels", x.loss(0), 0);
        sentence(32, "Returns by how much the best error would increase if an entry was removed.");
        long before = x.digest();
        x.loss(15);
        due("digest(), nothing changes", x.digest(), before);
        due("loss(0) of equal ones", with(row(5), 5, 5).loss(0), 0);
        due("loss(1) of equal ones", with(row(5), 5, 5).loss(1), 0);
        due("loss(0), equally far", with(row(5), 3, 7).loss(0), 0);
        due("loss(0), no opaque pixels", with(plain(2, 2, NONE), 3, 7).loss(0), 0);
        x = with(plain(16, 16, WHITE), WHITE, 0);
        x.setMetric(1);
        due("loss(0), the greatest one", x.loss(0), 256 * 585225);
        due("loss(1)", x.loss(1), 0);
        sentence(32, "`entry`: the entry, locked or not");
        x = locked(with(row(10, 20), 12, 20), 1);
        due("loss(0)", x.loss(0), 100 - 4);
        due("loss(1), locked", x.loss(1), 64);
    }

    private static void cheapestEntries() {
        sentence(33, "Returns the entry; STATE if there are fewer than two entries; NONE if all entries are locked.");
        refused("cheapest(), no entries", new PaletteBuilder(), STATE, PaletteBuilder::cheapest);
        PaletteBuilder x = with(row(10, 20), 12);
        refused("cheapest(), one entry", x, STATE, PaletteBuilder::cheapest);
        x.lock(0, true);
        refused("cheapest(), one entry, locked", x, STATE, PaletteBuilder::cheapest);
        x.add(20, true);
        due("cheapest(), two entries, both locked", x.cheapest(), NONE);
        x.lock(0, false);
        due("cheapest(), one of two is locked", x.cheapest(), 0);
        x = new PaletteBuilder();
        for (int e = 0; e < 16; e++) {
            x.add(e, true);
        }
        due("cheapest(), 16 locked ones", x.cheapest(), NONE);
        x.lock(15, false);
        due("cheapest(), the last of 16 is not locked", x.cheapest(), 15);
        sentence(33, "Finds the entry that is not locked and has the least loss(), of several the least one.");
        x = with(row(10, 10, 20, 30), 10, 20, 30, 200, 210);
        due("cheapest(), 3 and 4 have no loss", x.cheapest(), 3);
        x.lock(3, true);
        due("cheapest(), 4 has no loss", x.cheapest(), 4);
        x.lock(4, true);
        due("cheapest(), 1 and 2 lose 100, 0 loses 200", x.cheapest(), 1);
        x.lock(1, true);
        due("cheapest(), 2 loses 100", x.cheapest(), 2);
        due("cheapest(), no opaque pixels", with(plain(2, 2, NONE), 4, 5).cheapest(), 0);
    }

    private static void gains() {
        sentence(34, "Returns the decrease; BAD; STATE if the palette is empty.");
        PaletteBuilder x = row(10, 20);
        refused("gain(0), no entries", x, STATE, b -> b.gain(0));
        refused("gain(16777215), no entries", x, STATE, b -> b.gain(MAX_COLOR));
        refused("gain(0), no entries, no opaque pixels", plain(2, 2, NONE), STATE, b -> b.gain(0));
        for (int color : new int[] {NONE, -2, MAX_COLOR + 1, MIN, MAX}) {
            refused("gain(" + color + "), no entries", x, BAD, b -> b.gain(color));
        }
        x.add(12, false);
        PaletteBuilder one = x;
        for (int color : new int[] {NONE, -2, MAX_COLOR + 1, MIN, MAX}) {
            refused("gain(" + color + ")", one, BAD, b -> b.gain(color));
        }
        sentence(34, "Returns by how much the best error would decrease if an entry with some color was added.");
        long before = x.digest();
        due("gain(12), an equal one", x.gain(12), 0);
        due("gain(28), equally far from 20", x.gain(28), 0);
        due("gain(27)", x.gain(27), 64 - 49);
        due("gain(20)", x.gain(20), 64);
        due("gain(16), for 20, not for 10", x.gain(16), 64 - 16);
        due("gain(0)", x.gain(0), 0);
        due("gain(16777215)", x.gain(MAX_COLOR), 0);
        due("digest(), nothing changes", x.digest(), before);
        x = with(plain(16, 16, WHITE), 0);
        x.setMetric(1);
        due("gain(16777215), the greatest one", x.gain(MAX_COLOR), 256 * 585225);
        due("gain(5), no opaque pixels", with(plain(2, 2, NONE), 0).gain(5), 0);
        x = filled(row(155), 16, 10);
        due("gain(155), the palette is full", x.gain(155), 25);
        due("gain(149), the palette is full", x.gain(149), 0);
    }

    private static void bestAdditions() {
        sentence(35, "Finds the color of an opaque pixel that has the greatest gain(), of several the least one.");
        PaletteBuilder x = with(row(30, 10, 20), 20);
        due("bestAddition(), 10 and 30 gain 100", x.bestAddition(), 10);
        x = with(row(30, 10, 30, 20), 20);
        due("bestAddition(), 30 gains 200", x.bestAddition(), 30);
        x = with(row(9, 7, 8), 9, 8, 7);
        due("bestAddition(), none gains anything", x.bestAddition(), 7);
        x = with(row(NONE, 0), 0);
        due("bestAddition(), black", x.bestAddition(), 0);
        x = with(row(NONE, MAX_COLOR), MAX_COLOR);
        due("bestAddition(), white", x.bestAddition(), MAX_COLOR);
        // The mean 15 would gain more than any color of a pixel, but it is none.
        x = with(row(14, 16), 100);
        due("bestAddition(), only colors of pixels", x.bestAddition(), 14);
        x = with(plain(16, 16, WHITE), 0);
        x.setMetric(1);
        due("bestAddition(), the greatest gain", x.bestAddition(), WHITE);
        x = filled(row(155, 145), 16, 10);
        due("bestAddition(), the palette is full", x.bestAddition(), 145);
        // With the blue b added, the others cost (b - i)^2 or i^2, whichever is less: 2/3 of the way is best.
        x = with(allBlues(), 0);
        int best = x.bestAddition();
        int gain = x.gain(best);
        due("gain(best - 1) is less", x.gain(best - 1) < gain ? 1 : 0, 1);
        due("gain(best + 1) is not more", x.gain(best + 1) <= gain ? 1 : 0, 1);
        due("bestAddition(), 256 colors", best, bestBlue());
        sentence(35, "Returns the color; STATE if the palette is empty; NONE if there are no opaque pixels.");
        refused("bestAddition(), no entries", new PaletteBuilder(), STATE, PaletteBuilder::bestAddition);
        refused("bestAddition(), no entries, no opaque pixels", plain(2, 2, NONE), STATE, PaletteBuilder::bestAddition);
        due("bestAddition(), no opaque pixels", with(plain(2, 2, NONE), 1).bestAddition(), NONE);
    }

    /** The blue that makes the sum of the squares from all blues to the nearer one of it and 0 least. */
    private static int bestBlue() {
        int best = 0;
        long least = Long.MAX_VALUE;
        for (int blue = 0; blue < 256; blue++) {
            long sum = 0;
            for (int i = 0; i < 256; i++) {
                sum += Math.min(i * i, (i - blue) * (i - blue));
            }
            if (sum < least) {
                least = sum;
                best = blue;
            }
        }
        return best;
    }

    private static void nothingChanges() {
        sentence(31, "---- what if; nothing changes");
        for (int entries : new int[] {0, 1, 2, 16}) {
            PaletteBuilder x = filled(row(10, 200, NONE), entries, 16);
            x.map(1, 9);
            long before = x.digest();
            int error = x.bestError();
            x.loss(0);
            x.cheapest();
            x.gain(200);
            x.gain(-1);
            x.bestAddition();
            due("digest(), " + entries + " entries", x.digest(), before);
            due("bestError(), " + entries + " entries", x.bestError(), error);
        }
    }

    private static void undone() {
        sentence(36, "Returns how many more can be undone; STATE if there is none.");
        refused("undo() of a new object", new PaletteBuilder(), STATE, PaletteBuilder::undo);
        PaletteBuilder x = new PaletteBuilder();
        x.add(1, false);
        due("undo(), the only one", x.undo(), 0);
        refused("undo(), none is left", x, STATE, PaletteBuilder::undo);
        x = filled(new PaletteBuilder(), 10, 1);
        due("undo(), 10 changes", x.undo(), 9);
        x = filled(new PaletteBuilder(), 11, 1);
        due("undo(), 11 changes", x.undo(), 9);
        for (int i = 8; i >= 0; i--) {
            due("undo()", x.undo(), i);
        }
        refused("undo(), the oldest change stays", x, STATE, PaletteBuilder::undo);
        palette("the oldest change stays", x, 0);
        x.add(7, false);
        due("undo(), there is one again", x.undo(), 0);
        sentence(36, "Restores the state before the latest change that can be undone.");
        x = sample();
        long first = x.digest();
        x.image(16, 16);
        long second = x.digest();
        x.load();
        due("undo()", x.undo(), 8);
        due("digest()", x.digest(), second);
        due("undo()", x.undo(), 7);
        due("digest()", x.digest(), first);
        x.image(0, 0);
        x.undo();
        due("count(7), a refused call is no change", x.count(7), 0);
        // What was undone can not come back.
        x = with(new PaletteBuilder(), 1, 2);
        x.undo();
        x.undo();
        due("count(4)", x.count(4), 0);
        due("count(8)", x.count(8), 0);
    }

    private static void counts() {
        sentence(37, "`what`: 0 for the width, 1 for the height, 2 for opaque pixels, 3 for transparent pixels, 4 for entries, "
                + "5 for locked entries, 6 for the metric, 7 for 1 if there are indices, else 0, 8 for changes that can be undone, "
                + "9 for the length of the text");
        PaletteBuilder x = typed(sized(16, 15), "a".repeat(140));
        x.paint(0, 0, 16, 14, NONE);
        for (int e = 0; e < 16; e++) {
            x.add(e, e < 9);
        }
        x.setMetric(1);
        x.map(0, 0);
        int[] all = {16, 15, 16, 224, 16, 9, 1, 1, 10, 140};
        for (int what = 0; what < 10; what++) {
            due("count(" + what + ")", x.count(what), all[what]);
        }
        x = new PaletteBuilder();
        int[] least = {1, 1, 1, 0, 0, 0, 0, 0, 0, 0};
        for (int what = 0; what < 10; what++) {
            due("count(" + what + ") of a new object", x.count(what), least[what]);
        }
        x.paint(0, 0, 1, 1, NONE);
        due("count(2), no opaque pixels", x.count(2), 0);
        due("count(3), no opaque pixels", x.count(3), 1);
        sentence(37, "Returns the number; BAD.");
        for (int what : new int[] {-1, 10, 11, MIN, MAX}) {
            refused("count(" + what + ")", sample(), BAD, b -> b.count(what));
        }
    }

    private static long mixed(long h, long... values) {
        long mixed = h;
        for (long value : values) {
            mixed = 31 * mixed + value;
        }
        return mixed;
    }

    private static void digests() {
        sentence(38, "It begins with h = 77; for each of the following numbers v, in this order, h becomes 31 * h + v, "
                + "in long arithmetic with overflow");
        long h = mixed(77, 1, 1, 1, 0, 0, 0, 0, 0, 0, 0, 0);
        due("digest() of a new object", new PaletteBuilder().digest(), h);
        // 77 * 31^266 is far more than a long can hold.
        h = mixed(77, 16, 16, 256, 0, 0, 0, 0, 0, 2, 0);
        for (int i = 0; i < 256; i++) {
            h = mixed(h, MAX_COLOR);
        }
        due("digest() of 256 white pixels", plain(16, 16, WHITE).digest(), h);
        sentence(38, "the color of each pixel in row-major order, as pixel() returns it");
        PaletteBuilder x = sized(2, 2);
        x.paint(1, 0, 1, 1, 3);
        x.paint(0, 1, 1, 1, NONE);
        x.paint(1, 1, 1, 1, 5);
        due("digest(), a transparent pixel", x.digest(), mixed(77, 2, 2, 3, 1, 0, 0, 0, 0, 4, 0, 0, 3, NONE, 5));
        sentence(38, "for each entry, entry(e, 0) to entry(e, 3)");
        x = mapped(filled(new PaletteBuilder(), 16, 1), 0, 0);
        h = mixed(77, 1, 1, 1, 0, 16, 0, 0, 1, 10, 0, 0, 0, 0, 1, 1);
        for (int e = 1; e < 16; e++) {
            h = mixed(h, e, 0, 0, 0);
        }
        due("digest(), 16 entries", x.digest(), mixed(h, 0, 0, 0, 0, 1));
        sentence(38, "if there are indices, the index of each pixel in row-major order, error(), worst(), meanError() and runs()");
        x = locked(with(plain(2, 1, NONE), 6, 9), 1);
        due("digest(), no indices", x.digest(), mixed(77, 2, 1, 0, 2, 2, 1, 0, 0, 5, 0, NONE, NONE, 6, 0, 0, 0, 9, 1, 0, 0));
        x.map(2, 0);
        due("digest(), indices, but no opaque pixels", x.digest(), mixed(77, 2, 1, 0, 2, 2, 1, 0, 1, 6, 0, NONE, NONE,
                6, 0, 0, 0, 9, 1, 0, 0, 2, 2, 0, NONE, NONE, 1));
        x = mapped(with(new PaletteBuilder(), 2), 0, 0);
        due("digest(), one pixel", x.digest(), mixed(77, 1, 1, 1, 0, 1, 0, 0, 1, 2, 0, 0, 2, 0, 1, 1, 0, 4, 0, 0x40800000, 1));
        sentence(38, "the bytes of the text.");
        x = new PaletteBuilder();
        h = mixed(77, 1, 1, 1, 0, 0, 0, 0, 0, 0, 140, 0);
        for (int i = 0; i < 140; i++) {
            x.type(127 - i % 128);
            h = mixed(h, 127 - i % 128);
        }
        due("digest() of 140 bytes", x.digest(), h);
        x.clearText();
        due("digest(), no text is left", x.digest(), new PaletteBuilder().digest());
    }

    public static void main(String[] args) {
        bestErrors();
        losses();
        cheapestEntries();
        gains();
        bestAdditions();
        nothingChanges();
        undone();
        counts();
        digests();
        end();
    }
}
