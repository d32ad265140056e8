/** The boundary cases of promises 9 to 15, sentence by sentence. */
public final class PaletteBoundariesTest extends Boundaries {

    private static PaletteBuilder full() {
        return filled(new PaletteBuilder(), 16, 10);
    }

    private static void fullPalette() {
        sentence(9, "Returns its number; BAD; FULL if there are 16 entries.");
        PaletteBuilder x = new PaletteBuilder();
        for (int e = 0; e < 16; e++) {
            due("add, entry " + e, x.add(7, e % 2 == 0), e);
        }
        refused("add(7,false), a 17th one", x, FULL, b -> b.add(7, false));
        refused("add(0,true), a 17th one", x, FULL, b -> b.add(0, true));
        refused("add(-1,false), a 17th one", x, BAD, b -> b.add(-1, false));
        due("remove(1)", x.remove(1), 7);
        due("add(8,true), there is room again", x.add(8, true), 15);
        refused("add(9,true), full again", x, FULL, b -> b.add(9, true));
        due("undo()", x.undo(), 9);
        due("add(9,true), there is room again", x.add(9, true), 15);
        refused("add(9,true), full again", x, FULL, b -> b.add(9, true));
    }

    private static void addedEntries() {
        sentence(9, "Adds an entry at the end. This is a change.");
        PaletteBuilder x = new PaletteBuilder();
        due("add, to an empty palette", x.add(5, false), 0);
        due("add", x.add(4, true), 1);
        due("add, an equal one", x.add(5, false), 2);
        palette("add", x, 5, 4, 5);
        locks("add", x, 0, 1, 0);
        change("add(5,true)", sample(), 2, 0, b -> b.add(5, true));
        sentence(9, "`color`: its color");
        PaletteBuilder y = sample();
        for (int color : new int[] {NONE, -2, MAX_COLOR + 1, MIN, MAX}) {
            refused("add(" + color + ",false)", y, BAD, b -> b.add(color, false));
            refused("add(" + color + ",true)", y, BAD, b -> b.add(color, true));
        }
        due("add(0,false)", y.add(0, false), 2);
        due("add(16777215,false)", y.add(MAX_COLOR, false), 3);
        palette("add", y, 0, 255, 0, MAX_COLOR);
    }

    private static void removedEntries() {
        sentence(10, "Removes an entry; the numbers of those after it decrease by 1. This is a change.");
        PaletteBuilder x = locked(with(new PaletteBuilder(), 1, 2, 3, 4), 2);
        due("remove(0), the first one", x.remove(0), 1);
        palette("remove(0)", x, 2, 3, 4);
        locks("remove(0)", x, 0, 1, 0);
        due("remove(2), the last one", x.remove(2), 4);
        palette("remove(2)", x, 2, 3);
        due("remove(0)", x.remove(0), 2);
        palette("remove(0)", x, 3);
        locks("remove(0)", x, 1);
        x.lock(0, false);
        due("remove(0), the only one", x.remove(0), 3);
        due("count(4)", x.count(4), 0);
        x = full();
        due("remove(15) of 16", x.remove(15), 150);
        due("remove(0) of 15", x.remove(0), 0);
        for (int e = 0; e < 14; e++) {
            due("entry(" + e + ",0)", x.entry(e, 0), 10 * (e + 1));
        }
        due("entry(14,0)", x.entry(14, 0), BAD);
        change("remove(0)", sample(), 0, 0, b -> b.remove(0));
        change("remove(1)", sample(), 255, 0, b -> b.remove(1));
        sentence(10, "Returns its color; BAD; STATE if it is locked.");
        x = locked(with(new PaletteBuilder(), 1, 2, 3), 0, 2);
        refused("remove(0), locked", x, STATE, b -> b.remove(0));
        refused("remove(2), locked", x, STATE, b -> b.remove(2));
        for (int entry : new int[] {-1, 3, 16, MIN, MAX}) {
            refused("remove(" + entry + ")", x, BAD, b -> b.remove(entry));
        }
        due("remove(1), not locked", x.remove(1), 2);
        refused("remove(1), locked by now", x, STATE, b -> b.remove(1));
        x.lock(1, false);
        due("remove(1), unlocked", x.remove(1), 3);
        refused("remove(0) of none", new PaletteBuilder(), BAD, b -> b.remove(0));
    }

    private static void locksOfEntries() {
        sentence(11, "Returns 1 if it was locked before, otherwise 0; BAD.");
        PaletteBuilder x = with(new PaletteBuilder(), 1, 2, 3);
        due("lock(0,true)", x.lock(0, true), 0);
        due("lock(0,true) again", x.lock(0, true), 1);
        locks("lock(0,true)", x, 1, 0, 0);
        due("lock(0,false)", x.lock(0, false), 1);
        due("lock(0,false) again", x.lock(0, false), 0);
        due("lock(2,true)", x.lock(2, true), 0);
        locks("lock(2,true)", x, 0, 0, 1);
        for (int entry : new int[] {-1, 3, 16, MIN, MAX}) {
            refused("lock(" + entry + ",true)", x, BAD, b -> b.lock(entry, true));
            refused("lock(" + entry + ",false)", x, BAD, b -> b.lock(entry, false));
        }
        refused("lock(0,true) of none", new PaletteBuilder(), BAD, b -> b.lock(0, true));
        x = full();
        due("lock(15,true) of 16", x.lock(15, true), 0);
        due("entry(15,1)", x.entry(15, 1), 1);
        refused("lock(16,true) of 16", x, BAD, b -> b.lock(16, true));
        sentence(11, "Locks or unlocks an entry. This is a change.");
        change("lock(0,true)", sample(), 0, 1, b -> b.lock(0, true));
        change("lock(1,false), nothing becomes different", sample(), 0, 1, b -> b.lock(1, false));
    }

    private static void exchangedEntries() {
        sentence(12, "Exchanges two entries, locked ones, too. This is a change.");
        PaletteBuilder x = locked(with(new PaletteBuilder(), 5, 6, 7), 0, 2);
        due("swap(0,2), both are locked", x.swap(0, 2), 5);
        palette("swap(0,2)", x, 7, 6, 5);
        locks("swap(0,2)", x, 1, 0, 1);
        due("swap(1,2), the second is locked", x.swap(1, 2), 6);
        palette("swap(1,2)", x, 7, 5, 6);
        locks("swap(1,2)", x, 1, 1, 0);
        due("swap(2,0)", x.swap(2, 0), 6);
        palette("swap(2,0)", x, 6, 5, 7);
        locks("swap(2,0)", x, 0, 1, 1);
        x = full();
        due("swap(0,15) of 16", x.swap(0, 15), 0);
        due("entry(0,0)", x.entry(0, 0), 150);
        due("entry(15,0)", x.entry(15, 0), 0);
        x = mapped(filled(allBlues(), 16, 17), 0, 0);
        due("swap(0,15), 256 pixels", x.swap(0, 15), 0);
        due("index(0,0)", x.index(0, 0), 15);
        due("index(15,15)", x.index(15, 15), 0);
        due("index(15,7)", x.index(15, 7), 7);
        change("swap(0,1)", sample(), 0, 1, b -> b.swap(0, 1));
        x = sample();
        x.swap(0, 1);
        indices("swap(0,1), the transparent pixel keeps its index", x, 1, 0, 2);
        // The indices of others stay.
        x = mapped(with(row(1, 2, 3, NONE), 1, 2, 3), 0, 0);
        x.swap(2, 0);
        indices("swap(2,0)", x, 2, 1, 0, 3);
        sentence(12, "`other`: another entry, or the same");
        change("swap(1,1)", sample(), 255, 1, b -> b.swap(1, 1));
        x = locked(with(new PaletteBuilder(), 5), 0);
        due("swap(0,0), locked, the only one", x.swap(0, 0), 5);
        palette("swap(0,0)", x, 5);
        locks("swap(0,0)", x, 1);
        sentence(12, "Returns the color of the first one; BAD.");
        PaletteBuilder y = sample();
        for (int entry : new int[] {-1, 2, 16, MIN, MAX}) {
            refused("swap(" + entry + ",0)", y, BAD, b -> b.swap(entry, 0));
            refused("swap(1," + entry + ")", y, BAD, b -> b.swap(1, entry));
            refused("swap(" + entry + "," + entry + ")", y, BAD, b -> b.swap(entry, entry));
        }
        refused("swap(0,0) of none", new PaletteBuilder(), BAD, b -> b.swap(0, 0));
    }

    private static void metric() {
        sentence(13, "`metric`: the metric, 0 or 1");
        PaletteBuilder x = sample();
        for (int metric : new int[] {-1, 2, 3, MIN, MAX}) {
            refused("setMetric(" + metric + ")", x, BAD, b -> b.setMetric(metric));
        }
        sentence(13, "Returns the metric before; BAD.");
        due("setMetric(0), the same", x.setMetric(0), 0);
        due("setMetric(1)", x.setMetric(1), 0);
        due("setMetric(1), the same", x.setMetric(1), 1);
        refused("setMetric(2), metric 1", x, BAD, b -> b.setMetric(2));
        sentence(13, "Sets the metric. This is a change.");
        change("setMetric(1)", sample(), 0, 1, b -> b.setMetric(1));
        change("setMetric(0), nothing becomes different", sample(), 0, 1, b -> b.setMetric(0));
    }

    private static void propertiesOfEntries() {
        sentence(14, "2 for the number of opaque pixels whose nearest entry it is");
        PaletteBuilder x = with(row(10, 14, 20, NONE), 10, 18, 18);
        due("entry(0,2), 14 is equally far from 10 and 18", x.entry(0, 2), 2);
        due("entry(1,2)", x.entry(1, 2), 1);
        due("entry(2,2), equal to entry 1", x.entry(2, 2), 0);
        due("entry(0,2), 256 pixels", with(sized(16, 16), 9).entry(0, 2), 256);
        due("entry(0,2), no opaque pixels", with(plain(16, 16, NONE), 9).entry(0, 2), 0);
        sentence(14, "3 for the number of pixels that have it as their index (0 if there are no indices)");
        due("entry(0,3), no indices", x.entry(0, 3), 0);
        due("entry(2,3), no indices", x.entry(2, 3), 0);
        x.map(0, 0);
        due("entry(0,3)", x.entry(0, 3), 2);
        due("entry(1,3)", x.entry(1, 3), 1);
        due("entry(2,3), the transparent pixel has the index 3", x.entry(2, 3), 0);
        refused("entry(3,3), the index of the transparent pixel", x, BAD, b -> b.entry(3, 3));
        x.undo();
        due("entry(0,3), indices undone", x.entry(0, 3), 0);
        x.map(0, 0);
        x.paint(0, 0, 1, 1, 10);
        due("entry(0,3), indices discarded", x.entry(0, 3), 0);
        due("entry(0,3), 256 pixels", mapped(with(sized(16, 16), 9), 3, 0).entry(0, 3), 256);
        sentence(14, "1 for 1 if it is locked, else 0");
        x.lock(1, true);
        locks("lock(1,true)", x, 0, 1, 0);
        sentence(14, "Returns the property; BAD.");
        PaletteBuilder y = sample();
        for (int entry : new int[] {-1, 2, 15, 16, MIN, MAX}) {
            for (int what = 0; what <= 3; what++) {
                int which = what;
                refused("entry(" + entry + "," + what + ")", y, BAD, b -> b.entry(entry, which));
            }
        }
        for (int what : new int[] {-1, 4, MIN, MAX}) {
            refused("entry(0," + what + ")", y, BAD, b -> b.entry(0, what));
            refused("entry(1," + what + ")", y, BAD, b -> b.entry(1, what));
        }
        due("entry(1,0), the last one", y.entry(1, 0), 255);
        due("entry(15,0) of 16", full().entry(15, 0), 150);
        refused("entry(16,0) of 16", full(), BAD, b -> b.entry(16, 0));
    }

    private static void nearestEntries() {
        sentence(15, "Returns the number of the entry; BAD; NONE if the palette is empty.");
        PaletteBuilder x = new PaletteBuilder();
        due("nearest(0), no entries", x.nearest(0), NONE);
        due("nearest(16777215), no entries", x.nearest(MAX_COLOR), NONE);
        for (int color : new int[] {NONE, -2, MAX_COLOR + 1, MIN, MAX}) {
            refused("nearest(" + color + "), no entries", x, BAD, b -> b.nearest(color));
        }
        x.add(MAX_COLOR, false);
        due("nearest(0), one entry", x.nearest(0), 0);
        due("nearest(16777215), one entry", x.nearest(MAX_COLOR), 0);
        for (int color : new int[] {NONE, -2, MAX_COLOR + 1, MIN, MAX}) {
            refused("nearest(" + color + ")", x, BAD, b -> b.nearest(color));
        }
        x.setMetric(1);
        due("nearest(0), the greatest distance", x.nearest(0), 0);
        x.remove(0);
        due("nearest(0), no entries again", x.nearest(0), NONE);
        x = full();
        due("nearest(150), the last of 16", x.nearest(150), 15);
        due("nearest(0), the first of 16", x.nearest(0), 0);
        due("nearest(145), of two", x.nearest(145), 14);
        due("nearest(146)", x.nearest(146), 15);
    }

    public static void main(String[] args) {
        fullPalette();
        addedEntries();
        removedEntries();
        locksOfEntries();
        exchangedEntries();
        metric();
        propertiesOfEntries();
        nearestEntries();
        end();
    }
}
