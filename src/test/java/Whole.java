import java.util.ArrayList;
import java.util.List;

/**
 * All that can be seen of an object but status(), as a row of answers. Some of it is seen only by changing
 * it, so an object is of no more use behind this. It takes some 400 calls: 512 are promised.
 */
final class Whole {
    private static final int NUMBERS_LOOKED_AT = 8;

    private final SeenLand x;
    private final List<Integer> row = new ArrayList<>();

    private Whole(SeenLand x) {
        this.x = x;
    }

    static List<Integer> of(SeenLand x) {
        Whole whole = new Whole(x);
        whole.addTapeSize();
        whole.addLand();
        whole.addSheets();
        whole.addTape();
        whole.addImage();
        return whole.row;
    }

    private void addTapeSize() {
        row.add(x.count(4));
    }

    private void addLand() {
        for (int what = 0; what <= 6; what++) {
            if (what != 4) {
                row.add(x.count(what));
            }
        }
        for (int c = 0; c < 24; c++) {
            for (int what = 0; what <= 3; what++) {
                row.add(x.cellOf(c, what));
            }
        }
        for (int h = 0; h < x.count(1); h++) {
            row.add(x.houseOf(h, 0));
            row.add(x.houseOf(h, 1));
            row.add(x.houseOf(h, 3));
        }
        for (int spot = 0; spot < 10; spot++) {
            row.add(x.as(spot, 0));
        }
        row.add(x.law(0, 23));
        row.add(x.law(1, 10));
    }

    private void addSheets() {
        for (int s = 0; s < 4; s++) {
            row.add(x.load(s, 0));
            for (int c = 0; c < NUMBERS_LOOKED_AT; c++) {
                row.add(x.cellOf(c, 1));
            }
            addWidth(s);
        }
    }

    /** A number that is 7 in 8 bits alone, and one that is 7 in 8 and in 16. */
    private void addWidth(int s) {
        x.write(s, 0, 256 + 7);
        row.add(x.load(s, 0));
        x.write(s, 0, 65536 + 7);
        row.add(x.load(s, 0));
    }

    private void addTape() {
        row.add(x.text());
        row.add(x.law(0, 23));
        row.add(x.law(1, 10));
    }

    private void addImage() {
        row.add(x.undo());
        addLand();
        row.add(x.tear());
    }
}
