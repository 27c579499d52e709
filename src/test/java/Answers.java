/** What calls answer that are refused or come to a fault, and numbers far outside. */
interface Answers {
    int UNKNOWN = -1, OUTSIDE = -2, STATE = -3, FULL = -4, NONE = -9;
    int NULL = -11, CAST = -12, INDEX = -13, SIZE = -14;
    long LOST = Long.MIN_VALUE;
    int LEAST = Integer.MIN_VALUE, MOST = Integer.MAX_VALUE;
}
