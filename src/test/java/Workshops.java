/** Workshops that tests begin with. */
final class Workshops {
    private Workshops() {
    }

    static CaneSlices withCanes(int canes) {
        CaneSlices x = new CaneSlices();
        for (int made = 0; made < canes; made++) {
            x.begin();
        }
        return x;
    }

    /** One cane of this heat. */
    static CaneSlices withHeat(int heat) {
        CaneSlices x = withCanes(1);
        if (heat < 10) {
            x.rest(10 - heat);
        }
        return x;
    }

    /** A cane of heat 10 in the furnace, with this colour in one sector of the core. */
    static CaneSlices marked(int colour) {
        CaneSlices x = withCanes(1);
        x.furnace(0);
        x.lay(0, 0, 0, 1, colour);
        return x;
    }

    /** A cane of heat 10 in the furnace, whose core has the colour s in the sector s. */
    static CaneSlices numbered() {
        CaneSlices x = withCanes(1);
        x.furnace(0);
        for (int sector = 1; sector < 8; sector++) {
            x.lay(0, 0, sector, 1, sector);
        }
        return x;
    }

    /** That cane with a length of 60. */
    static CaneSlices numberedOf60() {
        CaneSlices x = numbered();
        for (int pulls = 0; pulls < 3; pulls++) {
            x.pull(0);
        }
        return x;
    }

    /** That cane of heat 0 with this length, and 60 - length slices cut off it. */
    static CaneSlices numberedOfLength(int length) {
        CaneSlices x = numberedOf60();
        cool(x);
        cutOff(x, 0, 60 - length);
        return x;
    }

    /** One cane with a mark in each ring, twisted by 1, and so many slices cut off it. */
    static CaneSlices withSlices(int slices) {
        CaneSlices x = marked(1);
        x.lay(0, 1, 2, 3, 2);
        x.lay(0, 2, 7, 2, 3);
        x.twist(0, 1);
        cool(x);
        cutOff(x, 0, slices);
        return x;
    }

    /** Eight canes of heat 0 and 60 slices, all of the pattern that a new cane has. */
    static CaneSlices with60Slices() {
        CaneSlices x = withCanes(8);
        x.rest(10);
        for (int cut = 0; cut < 60; cut++) {
            x.cut(cut / 8);
        }
        return x;
    }

    static void cool(CaneSlices x) {
        x.furnace(-1);
        x.rest(10);
    }

    static void heat(CaneSlices x, int cane) {
        x.furnace(cane);
        x.rest(4);
    }

    static void cutOff(CaneSlices x, int cane, int cuts) {
        for (int made = 0; made < cuts; made++) {
            x.cut(cane);
        }
    }

    static void beads(CaneSlices x, int beads) {
        for (int made = 0; made < beads; made++) {
            x.bead();
        }
    }
}
