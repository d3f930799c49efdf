/** The constants by the document's own numbers, so that a wrong constant of the program is seen. */
interface Answers {
    int UNKNOWN = -1;
    int BAD_VALUE = -2;
    int FULL = -3;
    int NOT_POSSIBLE = -4;
    int NONE = -5;
    int LOWEST = Integer.MIN_VALUE;
    int GREATEST = Integer.MAX_VALUE;
}
