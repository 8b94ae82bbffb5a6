/** OPERATIONS and PLACES written as in the tables of crystals: "-y,x-y,z+1/3" and "0,1/2,1/8". */
final class Xyz {
    final int nine;
    final int shift;

    Xyz(String text) {
        String[] rows = text.split(",");
        int digits = 0;
        int place = 0;
        for (String row : rows) {
            int[] numbers = read(row);
            for (int i = 0; i < 3; i++) {
                digits = digits * 3 + numbers[i] + 1;
            }
            place = place * 24 + Math.floorMod(numbers[3], 24);
        }
        nine = digits;
        shift = place;
    }

    static int place(String text) {
        return new Xyz(text).shift;
    }

    static int place(int x, int y, int z) {
        return (x * 24 + y) * 24 + z;
    }

    private static int[] read(String row) {
        int[] numbers = new int[4];
        int at = 0;
        while (at < row.length()) {
            int sign = row.charAt(at) == '-' ? -1 : 1;
            if (row.charAt(at) == '-' || row.charAt(at) == '+') {
                at++;
            }
            int axis = "xyz".indexOf(row.charAt(at));
            if (axis >= 0) {
                numbers[axis] += sign;
                at++;
                continue;
            }
            int end = at;
            while (end < row.length() && "+-".indexOf(row.charAt(end)) < 0) {
                end++;
            }
            String[] fraction = row.substring(at, end).split("/");
            int below = fraction.length == 2 ? Integer.parseInt(fraction[1]) : 1;
            numbers[3] += sign * Integer.parseInt(fraction[0]) * 24 / below;
            at = end;
        }
        return numbers;
    }
}
