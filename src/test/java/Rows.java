import java.util.ArrayList;
import java.util.List;

/** Rows of types, as many as there are. */
final class Rows {
    private Rows() {
    }

    /** All rows of none to three types. */
    static List<int[]> ofTypes() {
        List<int[]> rows = new ArrayList<>();
        rows.add(new int[0]);
        for (int from = 0; rows.get(from).length < 3; from++) {
            int[] row = rows.get(from);
            for (int type = 1; type <= 4; type++) {
                int[] longer = java.util.Arrays.copyOf(row, row.length + 1);
                longer[row.length] = type;
                rows.add(longer);
            }
        }
        return rows;
    }

    /** The words that parameters of these types have. */
    static int words(int[] types) {
        int words = 0;
        for (int type : types) {
            words += type == 2 || type == 4 ? 2 : 1;
        }
        return words;
    }
}
