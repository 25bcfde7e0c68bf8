import java.util.Arrays;

/** Makes skins, rows and texts for the tests. */
final class Made {
    private Made() {
    }

    static SkinTwists skin(int g) {
        SkinTwists x = new SkinTwists();
        x.skin(g);
        return x;
    }

    /** A skin with a plan in each of the places 0, 1 and so on. */
    static SkinTwists plans(int g, String... texts) {
        SkinTwists x = skin(g);
        for (int p = 0; p < texts.length; p++) {
            Due.read(x, p, texts[p]);
        }
        return x;
    }

    /**
     * A text whose plan makes letter 1 a row of so many letters 1 and 2, and letter 2 a row of so
     * many; the two numbers have no divisor in common. Its rows grow with each twist.
     */
    static String textOfLengths(int first, int second) {
        StringBuilder text = new StringBuilder();
        int one = first;
        int two = second;
        while (one != two) {
            if (one > two) {
                one -= two;
                text.insert(0, "b1-");
            } else {
                two -= one;
                text.insert(0, "a1");
            }
        }
        return text.toString();
    }

    /** The row of a simple ring with so many letters 1 and 2, which have no divisor in common. */
    static int[] evenRow(int ones, int twos) {
        int[] row = new int[ones + twos];
        for (int k = 0; k < row.length; k++) {
            row[k] = (k + 1) * twos / row.length > k * twos / row.length ? 2 : 1;
        }
        return row;
    }

    static int[] times(int many, int... part) {
        int[] row = new int[many * part.length];
        for (int k = 0; k < row.length; k++) {
            row[k] = part[k % part.length];
        }
        return row;
    }

    static int[] joined(int[]... parts) {
        int[] row = new int[0];
        for (int[] part : parts) {
            int from = row.length;
            row = Arrays.copyOf(row, from + part.length);
            System.arraycopy(part, 0, row, from, part.length);
        }
        return row;
    }

    static int[] back(int... row) {
        int[] back = new int[row.length];
        for (int k = 0; k < row.length; k++) {
            back[k] = -row[row.length - 1 - k];
        }
        return back;
    }

    /** The same ring begun at another place. */
    static int[] begunAt(int place, int... row) {
        int[] begun = new int[row.length];
        for (int k = 0; k < row.length; k++) {
            begun[k] = row[(place + k) % row.length];
        }
        return begun;
    }
}
