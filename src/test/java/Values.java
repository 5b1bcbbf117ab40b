/** The functions of the document, worked out without the class, to find objects for given counters. */
final class Values {
    private static final int[] A = {31, 57, 83, 109};
    private static final int[] B = {7, 19, 43, 61};

    private Values() {
    }

    static int value(int m, int object, int function) {
        return rest(rest(object * A[function] + B[function], 997), m);
    }

    private static int rest(int number, int divisor) {
        int left = number;
        while (left >= divisor) {
            left -= divisor;
        }
        return left;
    }

    /** The first objects of whose k functions exactly as many as told have the counter for their value. */
    static int[] objectsAt(int m, int k, int counter, int functions, int many) {
        int[] found = new int[many];
        int next = 0;
        for (int object = 0; next < many; object++) {
            if (object == 1000) {
                throw new IllegalArgumentException("there are not so many such objects");
            }
            if (times(m, k, counter, object) == functions) {
                found[next] = object;
                next++;
            }
        }
        return found;
    }

    static int times(int m, int k, int counter, int object) {
        int times = 0;
        for (int function = 0; function < k; function++) {
            times += value(m, object, function) == counter ? 1 : 0;
        }
        return times;
    }

    /** Objects of which each has another value of the function 0. */
    static int[] objectsApart(int m, int many) {
        int[] found = new int[many];
        for (int counter = 0; counter < many; counter++) {
            found[counter] = objectsAt(m, 1, counter, 1, 1)[0];
        }
        return found;
    }
}
